/-! the choice -/
section CH
variable {I J : sp_I} {now : Int}
theorem rl_lev (hS : rl_S I J) {j k : Nat} (hj : j < sp_n I) (hk : k < sp_c I j) : 101 - I (ad_t j) 1 ≤ I 2 (I (ad_s j k) 0).toNat := by
  have hT := hS.2.1 j hj
  rw [rl_ce hS hj hk]
  have := pf_max_ge (f := rf_cv J (J 13 (4 * j + k))) (n := rf_n J) (i := j) (by rw [rl_n hS]; exact hj)
  unfold rf_cv at this
  rw [pb_pos ⟨k, by rw [rl_p hT]; exact hk, rfl⟩, Int.one_mul] at this
  unfold rf_ce
  rw [hT.1.2.1]
  exact this
theorem rl_hbg (hS : rl_S I J) {i k : Nat} (hi : i < sp_n I) (hk : k < sp_c I i) (h : cl_held I i k) : rl_bg I i := by
  have := (hS.2.1 i hi).2.2.2.1 k hk
  exact ⟨h.1, by have := h.2.1; omega⟩
/-- one job alone holds what has the highest ceiling -/
theorem rl_uni (hS : rl_S I J) (h2 : rl_2 I) {i j k l : Nat} (hi : i < sp_n I) (hj : j < sp_n I) (hk : k < sp_c I i) (hl : l < sp_c I j) (ai : cl_held I i k) (aj : cl_held I j l) (e : I 2 (I (ad_s i k) 0).toNat = I 2 (I (ad_s j l) 0).toNat) : i = j := by
  by_cases z : i = j
  · exact z
  · exfalso
    have li := rl_lev hS hi hk
    have lj := rl_lev hS hj hl
    rcases bf_tot I (a := 2 + (i : Int)) (b := 2 + (j : Int)) (by omega) with y | y
    · have := h2 j i hj hi (rl_hbg hS hj hl aj) (rl_hbg hS hi hk ai) y l hl aj; omega
    · have := h2 i j hi hj (rl_hbg hS hi hk ai) (rl_hbg hS hj hl aj) y k hk ai; omega
/-- what is known of the runner i -/
def ch_i (I : sp_I) (i : Nat) : Prop := i < sp_n I ∧ cl_pend I i ∧ (cl_c I = cl_f I → (∀ j, j < sp_n I → cl_pend I j → ¬ cl_bf I (2 + j) (2 + i)) ∧ (I (ad_j i) 2 = 0 → cl_top I < 101 - I (ad_t i) 1)) ∧ (cl_c I ≠ cl_f I → cl_any I i ∧ ∀ j, j < sp_n I → rl_bg I j → ¬ cl_bf I (2 + j) (2 + i))
theorem ch_eq (h : rl I J) : (cl_c I = 0 ∧ rf_ch J = -1) ∨ (cl_c I = 1 ∧ rf_ch J = 6 ∧ 0 < I 3 2) ∨ ∃ i : Nat, cl_c I = 2 + i ∧ rf_ch J = i ∧ ch_i I i := by
  obtain ⟨hR, hRJ, hS, hV, hC, hK, hA, hZ, hD, hF, h1, h2⟩ := h
  have hJ : ∀ i, i < sp_n I → rl_J I J i (I 5 1) := fun i hi => (hA i hi).1
  have h14 := hV.2.1.2.2.2.2.1
  have h13 := hV.2.1.2.2.2.1
  have hn := rl_n6 hS
  have htop := rl_top hS hJ
  obtain ⟨ef, hx⟩ := od_first hS h14 h13 hJ hZ
  rcases hx with hx | ⟨x, ex, hx, tx, fx, hfst⟩
  · refine Or.inl ⟨?_, ?_⟩
    · have : cl_f I = 0 := by rw [ef, hx]; rfl
      unfold cl_c cl_ch
      rw [this, if_pos (Or.inl rfl)]
    · unfold rf_ch
      rw [hx, if_pos (Or.inl (by decide))]
  · by_cases x6 : x = 6
    · subst x6
      refine Or.inr (Or.inl ⟨?_, ?_, ?_⟩)
      · unfold cl_c cl_ch
        rw [fx, od_c6, if_pos (Or.inr rfl)]
      · unfold rf_ch
        rw [ex]
        exact if_pos (Or.inr (Or.inl rfl))
      · rcases tx with z | z
        · omega
        · exact absurd rfl z.1
    · have hxi : x < sp_n I := by omega
      refine Or.inr (Or.inr ?_)
      have hpx : cl_pend I x := by
        rcases (od_th hS h14 hJ hx).1 tx with z | z
        · rw [od_cn x6] at z; omega
        · rw [od_cn x6, show (2 + (x : Int) - 2).toNat = x by omega] at z; exact z.2
      have hf : cl_f I = 2 + (x : Int) := by rw [fx, od_cn x6]
      have before : ∀ j, j < sp_n I → cl_pend I j → ¬ cl_bf I (2 + j) (2 + x) := by
        intro j hj pj b
        have tj : rf_th J j := (od_th hS h14 hJ (Or.inl hj)).2 (Or.inr ⟨by rw [od_cn (by omega)]; omega, by rw [od_cn (by omega), show (2 + (j : Int) - 2).toNat = j by omega]; exact pj⟩)
        rcases hfst j (Or.inl hj) tj with z | z
        · subst z; exact bf_irr I b
        · rw [od_cn x6, od_cn (by omega)] at z; exact bf_asy z b
      have e20 : I (ad_j x) 2 = J 20 x := (hJ x hxi).1.2.1
      have e10 : I (ad_t x) 1 = J 10 x := (hS.2.1 x hxi).1.2.1
      have cc : cl_c I = if 0 < I (ad_j x) 2 then 2 + (x : Int) else if cl_top I < 101 - I (ad_t x) 1 then 2 + (x : Int) else if pf_fst (sp_n I) (fun i => cl_hi I i = cl_top I) < sp_n I then 2 + (pf_fst (sp_n I) (fun i => cl_hi I i = cl_top I) : Int) else 2 + (x : Int) := by
        unfold cl_c cl_ch
        rw [hf, if_neg (by omega), show (2 + (x : Int) - 2).toNat = x by omega]
      have rc : rf_ch J = if 0 < J 20 x then (x : Int) else if rf_top J < 101 - J 10 x then (x : Int) else if pf_fst 4 (rf_pr J) < 4 then rf_hd J (pf_fst 4 (rf_pr J) : Nat) else -1 := by
        unfold rf_ch
        rw [ex, Int.toNat_natCast]
        by_cases z : 0 < J 20 x
        · rw [if_pos (Or.inr (Or.inr z)), if_pos z]
        · rw [if_neg (by omega), if_neg z]
      by_cases r1 : 0 < J 20 x
      · rw [if_pos r1] at rc
        rw [if_pos (by omega)] at cc
        exact ⟨x, cc, rc, hxi, hpx, fun _ => ⟨before, fun z => by omega⟩, fun z => absurd (cc.trans hf.symm) z⟩
      · rw [if_neg r1] at rc
        rw [if_neg (by omega)] at cc
        by_cases r2 : rf_top J < 101 - J 10 x
        · rw [if_pos r2] at rc
          rw [if_pos (by omega)] at cc
          exact ⟨x, cc, rc, hxi, hpx, fun _ => ⟨before, fun z => by omega⟩, fun z => absurd (cc.trans hf.symm) z⟩
        · rw [if_neg r2] at rc
          rw [if_neg (by omega)] at cc
          have hP := (hS.2.1 x hxi).2.1
          -- the class's holder
          obtain ⟨i', hi', ei'⟩ : ∃ i, i < sp_n I ∧ cl_hi I i = cl_top I := by
            rcases pf_max_at (f := cl_hi I) (sp_n I) with z | z
            · unfold cl_top at htop; omega
            · exact z
          have hlt : pf_fst (sp_n I) (fun i => cl_hi I i = cl_top I) < sp_n I := by
            rcases Nat.lt_or_ge (pf_fst (sp_n I) (fun i => cl_hi I i = cl_top I)) (sp_n I) with z | z
            · exact z
            · exfalso
              have : ∀ n, i' < n → pf_fst n (fun i => cl_hi I i = cl_top I) < n := by
                intro n
                induction n with
                | zero => intro h; omega
                | succ n ih =>
                  intro hn
                  rw [pf_fst]
                  by_cases y : pf_fst n (fun i => cl_hi I i = cl_top I) < n
                  · rw [if_pos y]; omega
                  · rw [if_neg y]
                    by_cases e : i' = n
                    · subst e; rw [if_pos ei']; omega
                    · exact absurd (ih (by omega)) y
              have := this _ hi'
              omega
          rw [if_pos hlt] at cc
          obtain ⟨hi0, -⟩ := pf_fst_lt hlt
          generalize pf_fst (sp_n I) (fun i => cl_hi I i = cl_top I) = i at *
          obtain ⟨k, hk, held, ek⟩ : ∃ k, k < sp_c I i ∧ cl_held I i k ∧ I 2 (I (ad_s i k) 0).toNat = cl_top I := by
            have hi0 : cl_hi I i = cl_top I := hi0
            unfold cl_hi at hi0
            rcases pf_max_at (f := cl_hv I i) (sp_c I i) with z | ⟨k, hk, z⟩
            · omega
            · rw [hi0] at z
              unfold cl_hv at z
              by_cases y : cl_held I i k
              · rw [pb_pos y, Int.one_mul] at z
                exact ⟨k, hk, y, z⟩
              · rw [pb_neg y, Int.zero_mul] at z; omega
          -- the reference's
          obtain ⟨r', hr', er'⟩ : ∃ r, r < 4 ∧ rf_pr J r := by
            have e : rf_top J = pf_max 4 (fun r => pb_z (rf_hd J r ≠ -1) * rf_ce J r) := rfl
            rcases pf_max_at (f := fun r : Nat => pb_z (rf_hd J r ≠ -1) * rf_ce J r) 4 with z | ⟨r, hr, z⟩
            · omega
            · by_cases y : rf_hd J r ≠ -1
              · have z : pb_z (rf_hd J r ≠ -1) * rf_ce J r = _ := z
                rw [pb_pos y, Int.one_mul] at z
                exact ⟨r, hr, by rw [e]; exact z, y⟩
              · have z : pb_z (rf_hd J r ≠ -1) * rf_ce J r = _ := z
                rw [pb_neg y, Int.zero_mul] at z; omega
          have hlr : pf_fst 4 (rf_pr J) < 4 := by
            rcases Nat.lt_or_ge (pf_fst 4 (rf_pr J)) 4 with z | z
            · exact z
            · exfalso
              have : ∀ n, r' < n → pf_fst n (rf_pr J) < n := by
                intro n
                induction n with
                | zero => intro h; omega
                | succ n ih =>
                  intro hn
                  rw [pf_fst]
                  by_cases y : pf_fst n (rf_pr J) < n
                  · rw [if_pos y]; omega
                  · rw [if_neg y]
                    by_cases e : r' = n
                    · subst e; rw [if_pos er']; omega
                    · exact absurd (ih (by omega)) y
              have := this _ hr'
              omega
          rw [if_pos hlr] at rc
          obtain ⟨⟨g1, g2⟩, -⟩ := pf_fst_lt hlr
          generalize pf_fst 4 (rf_pr J) = r at *
          have g3 : rf_hd J r = (pf_fst (rf_n J) (fun i => rf_h J i r) : Nat) ∧ pf_fst (rf_n J) (fun i => rf_h J i r) < rf_n J := by
            unfold rf_hd at g2 ⊢
            by_cases y : pf_fst (rf_n J) (fun i => rf_h J i r) < rf_n J
            · exact ⟨if_pos y, y⟩
            · rw [if_neg y] at g2; exact absurd rfl g2
          have g4 := (pf_fst_lt g3.2).1
          rw [g3.1] at rc
          generalize pf_fst (rf_n J) (fun i => rf_h J i r) = j at *
          have g5 : j < sp_n I := by rw [← rl_n hS]; exact g3.2
          obtain ⟨l, hl, er, heldj⟩ := (rl_hd hS g5 (hJ j g5) r).2 g4
          have ej : I 2 (I (ad_s j l) 0).toNat = cl_top I := by
            rw [er, Int.toNat_natCast, hS.2.2.2.2 r hlr, g1, htop]
          have hij : i = j := rl_uni hS h2 hlt g5 hk hl held heldj (ek.trans ej.symm)
          subst hij
          refine ⟨i, cc, rc, hlt, held.1, fun z => ?_, fun _ => ⟨⟨k, hk, held⟩, fun j hj bj bb => ?_⟩⟩
          · exfalso
            have : i = x := by omega
            subst this
            have := (rl_hbg hS hlt hk held).2
            omega
          · have q2 := h2 i j hlt hj (rl_hbg hS hlt hk held) bj bb k hk held
            have nbx : I (ad_j x) 2 = 0 := by have := (hJ x hxi).2.1; omega
            have jx : j ≠ x := by rintro rfl; have := bj.2; omega
            have bxj : cl_bf I (2 + x) (2 + j) := by
              rcases bf_tot I (a := 2 + (x : Int)) (b := 2 + (j : Int)) (by omega) with z | z
              · exact z
              · exact absurd z (before j hj bj.1)
            have q1 := h1 j x hj hxi bj hpx nbx bxj
            have dx : I (ad_j x) 4 = J 18 x + J 10 x := (hJ x hxi).2.2.2.1 (by have := (hJ x hxi).2.1; unfold cl_pend at hpx; omega)
            have dj : I (ad_j j) 4 = J 18 j + J 10 j := (hJ j hj).2.2.2.1 (by have := (hJ j hj).2.1; have := bj.1; unfold cl_pend at this; omega)
            have sx := (hJ x hxi).1.2.2.1
            have sj := (hJ j hj).1.2.2.1
            have tj := (hS.2.1 j hj).1.2.1
            have dd : cl_dl I (2 + (x : Int)) ≤ cl_dl I (2 + (j : Int)) := by
              unfold cl_bf at bxj
              omega
            unfold cl_dl at dd
            rw [if_neg (by omega), if_neg (by omega), show (2 + (x : Int) - 2).toNat = x by omega, show (2 + (j : Int) - 2).toNat = j by omega] at dd
            omega
end CH
