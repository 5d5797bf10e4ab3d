/-! equal answers: verdict, ceiling, holder, system ceiling -/
theorem pf_max_zero {f : Nat → Int} : ∀ n, (∀ k, k < n → f k = 0) → pf_max n f = 0
  | 0, _ => rfl
  | n + 1, h => by rw [pf_max, pf_max_zero n (fun k hk => h k (by omega)), h n (by omega)]; rfl
section EQ
variable {I J : sp_I}
theorem rl_ce (hS : rl_S I J) {i k : Nat} (hi : i < sp_n I) (hk : k < sp_c I i) : I 2 (I (ad_s i k) 0).toNat = rf_ce J (J 13 (4 * i + k)) := by
  obtain ⟨-, -, -, hQ, hs⟩ := hS.2.1 i hi
  have h1 := hQ k hk
  have h2 := (hs k hk).1
  rw [hS.2.2.2.2 _ (by omega), show (((I (ad_s i k) 0).toNat : Nat) : Int) = J 13 (4 * i + k) by omega]
theorem rl_oh (hS : rl_S I J) {i : Nat} (hi : i < sp_n I) : cl_lha I i = rf_oh J i := by
  unfold cl_lha rf_oh
  rw [rl_n hS]
  refine pf_max_congr _ (fun j hj => ?_)
  have hTi := hS.2.1 i hi
  have hTj := hS.2.1 j hj
  unfold cl_ag rf_oj cl_lh
  rw [rl_p hTj, hTi.1.2.1, hTj.1.2.1]
  by_cases h : J 10 i < J 10 j
  · rw [pb_pos h, Int.one_mul]
    refine pf_max_congr _ (fun k hk => ?_)
    unfold cl_lv rf_ov
    rw [rl_ce hS hj hk, (hTj.2.2.2.2 k hk).2.1, (hTj.2.2.2.2 k hk).2.2]
    rw [pb_iff (show (101 - J 10 i ≤ rf_ce J (J 13 (4 * j + k))) ↔ (J 10 i < J 10 j ∧ 101 - J 10 i ≤ rf_ce J (J 13 (4 * j + k))) from ⟨fun z => ⟨h, z⟩, fun z => z.2⟩)]
  · rw [pb_neg h, Int.zero_mul]
    refine (pf_max_zero _ (fun k hk => ?_)).symm
    unfold rf_ov
    rw [pb_neg (fun z => h z.1), Int.zero_mul]
theorem rl_vd (hS : rl_S I J) {now : Int} (hV : rl_V I J now) : pf_fst (sp_n I) (cl_vp I) = pf_fst (rf_n J) (rf_vp J) := by
  rw [rl_n hS]
  refine pf_fst_congr _ (fun i hi => ?_)
  obtain ⟨-, ⟨h3, h4, -⟩, -, -, hor, -⟩ := hV
  unfold cl_vp rf_vp
  rw [rl_n hS, ← rl_oh hS hi, vd_eq hS hi h3 h4 (fun z => by omega)]
theorem rl_hold (hS : rl_S I J) {i k : Nat} (hi : i < sp_n I) (hk : k < sp_c I i) {now : Int} (hJ : rl_J I J i now) : cl_held I i k ↔ (J 17 i = 1 ∧ rf_at J i k) := by
  obtain ⟨⟨e1, e2, -⟩, h1, h17, -⟩ := hJ
  obtain ⟨-, s1, s2⟩ := (hS.2.1 i hi).2.2.2.2 k hk
  unfold cl_held rf_at cl_pend
  rw [h17, s1, s2]
  constructor
  · rintro ⟨a, b, c⟩
    refine ⟨by rw [if_neg (by omega), if_pos a], by omega, by omega⟩
  · rintro ⟨a, b, c⟩
    refine ⟨?_, by omega, by omega⟩
    by_cases z : I (ad_j i) 1 = 0
    · rw [if_pos z] at a; omega
    · rw [if_neg z] at a
      by_cases y : I (ad_j i) 2 < I (ad_j i) 1
      · exact y
      · rw [if_neg y] at a; omega
theorem rl_pend {i : Nat} {now : Int} (hJ : rl_J I J i now) : cl_pend I i ↔ J 17 i = 1 := by
  obtain ⟨-, h1, h17, -⟩ := hJ
  unfold cl_pend
  rw [h17]
  constructor
  · intro a
    rw [if_neg (by omega), if_pos a]
  · intro a
    by_cases z : I (ad_j i) 1 = 0
    · rw [if_pos z] at a; omega
    · rw [if_neg z] at a
      by_cases y : I (ad_j i) 2 < I (ad_j i) 1
      · exact y
      · rw [if_neg y] at a; omega
theorem rl_hd (hS : rl_S I J) {i : Nat} (hi : i < sp_n I) {now : Int} (hJ : rl_J I J i now) (r : Int) : cl_hd I r i ↔ rf_h J i r := by
  have hT := hS.2.1 i hi
  unfold cl_hd rf_h
  rw [rl_p hT]
  constructor
  · rintro ⟨k, hk, e, h⟩
    have := (rl_hold hS hi hk hJ).1 h
    exact ⟨this.1, k, hk, by rw [← (hT.2.2.2.2 k hk).1]; exact e, this.2⟩
  · rintro ⟨a, k, hk, e, h⟩
    exact ⟨k, hk, by rw [(hT.2.2.2.2 k hk).1]; exact e, (rl_hold hS hi hk hJ).2 ⟨a, h⟩⟩
theorem rl_any (hS : rl_S I J) {i : Nat} (hi : i < sp_n I) {now : Int} (hJ : rl_J I J i now) : cl_any I i ↔ rf_any J i := by
  have hT := hS.2.1 i hi
  have hQ := hT.2.2.2.1
  have key : cl_any I i ↔ ∃ r : Int, cl_hd I r i := ⟨fun ⟨k, hk, h⟩ => ⟨_, k, hk, rfl, h⟩, fun ⟨r, k, hk, _, h⟩ => ⟨k, hk, h⟩⟩
  rw [key]
  unfold rf_any
  constructor
  · rintro ⟨r, h⟩
    have h' := h
    obtain ⟨k, hk, e, -⟩ := h'
    have hq := (hQ k hk).1
    rw [rl_hd hS hi hJ] at h
    rcases (by omega : r = 0 ∨ r = 1 ∨ r = 2 ∨ r = 3) with z | z | z | z <;> subst z
    · exact .inl h
    · exact .inr (.inl h)
    · exact .inr (.inr (.inl h))
    · exact .inr (.inr (.inr h))
  · intro h
    rcases h with h | h | h | h
    all_goals exact ⟨_, (rl_hd hS hi hJ _).2 h⟩
theorem rl_holder (hS : rl_S I J) {now : Int} (hJ : ∀ i, i < sp_n I → rl_J I J i now) (r : Int) : (if pf_fst (sp_n I) (cl_hd I r) < sp_n I then (pf_fst (sp_n I) (cl_hd I r) : Int) else -1) = rf_hd J r := by
  unfold rf_hd
  rw [rl_n hS, pf_fst_congr (sp_n I) (fun i hi => rl_hd hS hi (hJ i hi) r)]
theorem rl_holder_out (hS : rl_S I J) {r : Int} (hr : ¬ (0 ≤ r ∧ r ≤ 3)) : (if pf_fst (sp_n I) (cl_hd I r) < sp_n I then (pf_fst (sp_n I) (cl_hd I r) : Int) else -1) = -1 := by
  rw [pf_fst_none (sp_n I) (fun i hi => ?_), if_neg (by omega)]
  rintro ⟨k, hk, e, -⟩
  have := ((hS.2.1 i hi).2.2.2.1 k hk).1
  omega
theorem rf_hd_ne (r : Int) : rf_hd J r ≠ -1 ↔ ∃ i, i < rf_n J ∧ rf_h J i r := by
  unfold rf_hd
  constructor
  · intro h
    by_cases z : pf_fst (rf_n J) (fun i => rf_h J i r) < rf_n J
    · exact ⟨_, z, (pf_fst_lt z).1⟩
    · rw [if_neg z] at h; exact absurd rfl h
  · rintro ⟨i, hi, h⟩
    by_cases z : pf_fst (rf_n J) (fun i => rf_h J i r) < rf_n J
    · rw [if_pos z]; omega
    · exfalso
      have : ∀ n, i < n → pf_fst n (fun i => rf_h J i r) < n := by
        intro n
        induction n with
        | zero => intro h; omega
        | succ n ih =>
          intro hn
          rw [pf_fst]
          by_cases y : pf_fst n (fun i => rf_h J i r) < n
          · rw [if_pos y]; omega
          · rw [if_neg y]
            by_cases e : i = n
            · subst e; rw [if_pos h]; omega
            · exact absurd (ih (by omega)) y
      exact z (this _ hi)
theorem rl_top (hS : rl_S I J) {now : Int} (hJ : ∀ i, i < sp_n I → rl_J I J i now) : cl_top I = rf_top J := by
  have hn := rl_n hS
  apply Int.le_antisymm
  · unfold cl_top
    refine pf_max_le _ (pf_max_nonneg _ _) (fun i hi => ?_)
    unfold cl_hi
    refine pf_max_le _ (pf_max_nonneg _ _) (fun k hk => ?_)
    unfold cl_hv
    by_cases h : cl_held I i k
    · rw [pb_pos h, Int.one_mul, rl_ce hS hi hk]
      have hT := hS.2.1 i hi
      have hq := (hT.2.2.2.1 k hk).1
      have e := (hT.2.2.2.2 k hk).1
      have hh := (rl_hd hS hi (hJ i hi) (I (ad_s i k) 0)).1 ⟨k, hk, rfl, h⟩
      have hne := (rf_hd_ne (J := J) (I (ad_s i k) 0)).2 ⟨i, by omega, hh⟩
      have := pf_max_ge (f := fun r : Nat => pb_z (rf_hd J r ≠ -1) * rf_ce J r) (n := 4) (i := (I (ad_s i k) 0).toNat) (by omega)
      rw [show (((I (ad_s i k) 0).toNat : Nat) : Int) = I (ad_s i k) 0 by omega, pb_pos hne, Int.one_mul, e] at this
      exact this
    · rw [pb_neg h, Int.zero_mul]
      exact pf_max_nonneg _ _
  · unfold rf_top
    refine pf_max_le _ (pf_max_nonneg _ _) (fun r hr => ?_)
    by_cases h : rf_hd J r ≠ -1
    · rw [pb_pos h, Int.one_mul]
      obtain ⟨i, hi, hh⟩ := (rf_hd_ne (J := J) r).1 h
      rw [hn] at hi
      obtain ⟨k, hk, e, hd⟩ := (rl_hd hS hi (hJ i hi) r).2 hh
      have e2 := ((hS.2.1 i hi).2.2.2.2 k hk).1
      have g1 := pf_max_ge (f := cl_hi I) hi
      have g2 : cl_hv I i k ≤ cl_hi I i := pf_max_ge (f := cl_hv I i) hk
      unfold cl_hv at g2
      rw [pb_pos hd, Int.one_mul, rl_ce hS hi hk, ← e2, e] at g2
      unfold cl_top
      omega
    · rw [pb_neg h, Int.zero_mul]
      exact pf_max_nonneg _ _
end EQ
