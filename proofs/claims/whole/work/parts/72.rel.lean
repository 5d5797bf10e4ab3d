/-! the order -/
theorem pf_cnt_zero {p : Nat → Prop} : ∀ n, pf_cnt n p = 0 ↔ ∀ k, k < n → ¬ p k
  | 0 => ⟨fun _ k hk => absurd hk (by omega), fun _ => rfl⟩
  | n + 1 => by
    have h1 := pf_cnt_rng p n
    have h2 := pb_rng (p n)
    rw [pf_cnt]
    constructor
    · intro h k hk
      by_cases e : k = n
      · subst e; exact pb_eq0.1 (by omega)
      · exact (pf_cnt_zero n).1 (by omega) k (by omega)
    · intro h
      rw [(pf_cnt_zero n).2 (fun k hk => h k (by omega)), pb_neg (h n (by omega))]
      rfl
theorem pf_cnt_shift (p : Nat → Prop) : ∀ n, pf_cnt (n + 1) p = pb_z (p 0) + pf_cnt n (fun x => p (x + 1))
  | 0 => by rw [pf_cnt, pf_cnt, pf_cnt]; omega
  | n + 1 => by rw [pf_cnt, pf_cnt_shift p n, pf_cnt]; omega
theorem pf_cnt_ext {p : Nat → Prop} {n : Nat} : ∀ m, (∀ y, n ≤ y → y < n + m → ¬ p y) → pf_cnt (n + m) p = pf_cnt n p
  | 0, _ => rfl
  | m + 1, h => by
    show pf_cnt (n + m) p + pb_z (p (n + m)) = _
    rw [pf_cnt_ext m (fun y a b => h y a (by omega)), pb_neg (h _ (by omega) (by omega)), Int.add_zero]
theorem pf_cnt_mono {p q : Nat → Prop} : ∀ n, (∀ k, k < n → p k → q k) → pf_cnt n p ≤ pf_cnt n q
  | 0, _ => Int.le_refl _
  | n + 1, h => by
    have := pf_cnt_mono n (fun k hk => h k (by omega))
    rw [pf_cnt, pf_cnt]
    by_cases a : p n
    · rw [pb_pos a, pb_pos (h n (by omega) a)]; omega
    · rw [pb_neg a]; have := pb_rng (q n); omega
theorem pf_cnt_lt {p q : Nat → Prop} {i : Nat} (hq : q i) (hp : ¬ p i) : ∀ n, (∀ k, k < n → p k → q k) → i < n → pf_cnt n p < pf_cnt n q
  | 0, _, h => absurd h (by omega)
  | n + 1, h, hi => by
    rw [pf_cnt, pf_cnt]
    by_cases e : i = n
    · subst e
      have := pf_cnt_mono i (fun k hk => h k (by omega))
      rw [pb_pos hq, pb_neg hp]
      omega
    · have := pf_cnt_lt hq hp n (fun k hk => h k (by omega)) (by omega)
      by_cases a : p n
      · rw [pb_pos a, pb_pos (h n (by omega) a)]; omega
      · rw [pb_neg a]; have := pb_rng (q n); omega
section OD
variable {I J : sp_I} {now : Int}
theorem bf_tot (I : sp_I) {a b : Int} (h : a ≠ b) : cl_bf I a b ∨ cl_bf I b a := by
  unfold cl_bf
  generalize cl_dl I a = u
  generalize cl_dl I b = v
  omega
theorem bf_irr (I : sp_I) {a : Int} : ¬ cl_bf I a a := by
  unfold cl_bf
  omega
theorem bf_asy {I : sp_I} {a b : Int} (h : cl_bf I a b) : ¬ cl_bf I b a := by
  unfold cl_bf at *
  generalize cl_dl I a = u at *
  generalize cl_dl I b = v at *
  omega
theorem bf_tr {I : sp_I} {a b c : Int} (h1 : cl_bf I a b) (h2 : cl_bf I b c) : cl_bf I a c := by
  unfold cl_bf at *
  generalize cl_dl I a = u at *
  generalize cl_dl I b = v at *
  generalize cl_dl I c = w at *
  omega
/-- the first of the codes up to q -/
theorem fs_spec (I : sp_I) : ∀ q : Nat, (cl_fs I q = 0 ∧ ∀ c : Int, 1 ≤ c → c ≤ q → ¬ cl_in I c) ∨ (1 ≤ cl_fs I q ∧ cl_fs I q ≤ q ∧ cl_in I (cl_fs I q) ∧ ∀ c : Int, 1 ≤ c → c ≤ q → cl_in I c → c = cl_fs I q ∨ cl_bf I (cl_fs I q) c)
  | 0 => Or.inl ⟨rfl, fun c h1 h2 => absurd h2 (by omega)⟩
  | q + 1 => by
    have ih := fs_spec I q
    rw [cl_fs]
    generalize cl_fs I q = f at *
    by_cases h : cl_in I ((q : Int) + 1) ∧ (f = 0 ∨ cl_bf I ((q : Int) + 1) f)
    · rw [if_pos h]
      refine Or.inr ⟨by omega, by omega, h.1, fun c h1 h2 h3 => ?_⟩
      by_cases e : c = (q : Int) + 1
      · exact Or.inl e
      · refine Or.inr ?_
        rcases ih with ⟨a, b⟩ | ⟨a, b, u, w⟩
        · exact absurd h3 (b c h1 (by omega))
        · have hb : cl_bf I ((q : Int) + 1) f := by
            rcases h.2 with z | z
            · omega
            · exact z
          rcases w c h1 (by omega) h3 with z | z
          · rw [z]; exact hb
          · exact bf_tr hb z
    · rw [if_neg h]
      rcases ih with ⟨a, b⟩ | ⟨a, b, u, w⟩
      · refine Or.inl ⟨a, fun c h1 h2 h3 => ?_⟩
        by_cases e : c = (q : Int) + 1
        · rw [e] at h3; exact h ⟨h3, Or.inl a⟩
        · exact b c h1 (by omega) h3
      · refine Or.inr ⟨a, by omega, u, fun c h1 h2 h3 => ?_⟩
        by_cases e : c = (q : Int) + 1
        · rw [e] at h3 ⊢
          rcases bf_tot I (a := f) (b := (q : Int) + 1) (by omega) with z | z
          · exact Or.inr z
          · exact absurd ⟨h3, Or.inr z⟩ h
        · exact w c h1 (by omega) h3
/-- the class's code of the reference's number -/
def od_c (x : Nat) : Int := if x = 6 then 1 else 2 + x
theorem od_c6 : od_c 6 = 1 := rfl
theorem od_cn {x : Nat} (h : x ≠ 6) : od_c x = 2 + x := by unfold od_c; rw [if_neg h]
theorem od_cd {x : Nat} : rf_cd x = od_c x := by
  unfold rf_cd od_c
  rw [if_neg (by omega)]
  by_cases h : x = 6
  · rw [if_pos h, if_pos (by omega)]
  · rw [if_neg h, if_neg (by omega)]
theorem od_th (hS : rl_S I J) (hV : I 3 2 = J 8 14) (hJ : ∀ i, i < sp_n I → rl_J I J i now) {x : Nat} (hx : x < sp_n I ∨ x = 6) : rf_th J x ↔ cl_in I (od_c x) := by
  have hn := rl_n6 hS
  unfold rf_th cl_in
  by_cases h : x = 6
  · subst h
    rw [od_c6]
    constructor
    · rintro (z | z)
      · exact Or.inl ⟨rfl, by omega⟩
      · exact absurd rfl z.1
    · rintro (z | z)
      · exact Or.inl ⟨rfl, by omega⟩
      · exact absurd rfl z.1
  · have hi : x < sp_n I := by omega
    rw [od_cn h, show (2 + (x : Int) - 2).toNat = x by omega, rl_pend (hJ x hi)]
    constructor
    · rintro (z | z)
      · exact absurd z.1 h
      · exact Or.inr ⟨by omega, z.2⟩
    · rintro (z | z)
      · omega
      · exact Or.inr ⟨h, z.2⟩
theorem od_no (hZ : ∀ i, sp_n I ≤ i → i < 6 → rl_Z J i) {x : Nat} (h1 : sp_n I ≤ x) (h2 : x < 6) : ¬ rf_th J x := by
  have := (hZ x h1 h2).1
  rintro (z | z)
  · omega
  · rw [this] at z; exact absurd z.2 (by decide)
theorem od_dl (hV : I 3 6 = J 8 13) (hJ : ∀ i, i < sp_n I → rl_J I J i now) {x : Nat} (hx : x < sp_n I ∨ x = 6) (ht : rf_th J x) (h6 : sp_n I ≤ 6) : rf_dl J x = cl_dl I (od_c x) := by
  unfold rf_dl cl_dl
  by_cases h : x = 6
  · subst h
    rw [od_c6, if_pos rfl, if_pos rfl, hV]
  · have hi : x < sp_n I := by omega
    rw [if_neg h, od_cn h, if_neg (by omega), show (2 + (x : Int) - 2).toNat = x by omega]
    have h17 : J 17 x = 1 := by
      rcases ht with z | z
      · exact absurd z.1 h
      · exact z.2
    have hp := (rl_pend (hJ x hi)).2 h17
    obtain ⟨-, h1, -, h4, -⟩ := hJ x hi
    unfold cl_pend at hp
    rw [h4 (by omega)]
theorem od_er (hS : rl_S I J) (hV : I 3 6 = J 8 13) (hJ : ∀ i, i < sp_n I → rl_J I J i now) {x y : Nat} (hx : x < sp_n I ∨ x = 6) (hy : y < sp_n I ∨ y = 6) (tx : rf_th J x) (ty : rf_th J y) : rf_er J x y ↔ cl_bf I (od_c x) (od_c y) := by
  have hn := rl_n6 hS
  unfold rf_er cl_bf
  rw [od_dl hV hJ hx tx hn.2, od_dl hV hJ hy ty hn.2]
  generalize cl_dl I (od_c x) = u
  generalize cl_dl I (od_c y) = v
  unfold od_c
  by_cases h : x = 6
  · rw [if_pos h]
    by_cases k : y = 6
    · rw [if_pos k]; omega
    · rw [if_neg k]; omega
  · rw [if_neg h]
    by_cases k : y = 6
    · rw [if_pos k]; omega
    · rw [if_neg k]; omega
theorem od_lt (hZ : ∀ i, sp_n I ≤ i → i < 6 → rl_Z J i) {x : Nat} (hx : x < 7) (t : rf_th J x) : x < sp_n I ∨ x = 6 := by
  by_cases h : x = 6
  · exact Or.inr h
  · by_cases k : x < sp_n I
    · exact Or.inl k
    · exact absurd t (od_no hZ (by omega) (by omega))
/-- every code of the order is the code of a number -/
theorem od_x {c : Int} (h1 : 1 ≤ c) (h2 : c ≤ sp_n I + 1) (h6 : sp_n I ≤ 6) : ∃ x : Nat, (x < sp_n I ∨ x = 6) ∧ c = od_c x := by
  by_cases h : c = 1
  · exact ⟨6, Or.inr rfl, h⟩
  · exact ⟨(c - 2).toNat, Or.inl (by omega), by rw [od_cn (by omega)]; omega⟩
theorem od_inj {x y : Nat} (h : od_c x = od_c y) : x = y := by
  unfold od_c at h
  split at h <;> split at h <;> omega
/-- the first -/
theorem od_first (hS : rl_S I J) (h14 : I 3 2 = J 8 14) (h13 : I 3 6 = J 8 13) (hJ : ∀ i, i < sp_n I → rl_J I J i now) (hZ : ∀ i, sp_n I ≤ i → i < 6 → rl_Z J i) : cl_f I = rf_cd (rf_io J 0) ∧ (rf_io J 0 = -1 ∨ ∃ x : Nat, rf_io J 0 = x ∧ (x < sp_n I ∨ x = 6) ∧ rf_th J x ∧ cl_f I = od_c x ∧ ∀ y : Nat, (y < sp_n I ∨ y = 6) → rf_th J y → y = x ∨ cl_bf I (od_c x) (od_c y)) := by
  have hn := rl_n6 hS
  rcases fs_spec I (sp_n I + 1) with ⟨a, b⟩ | ⟨a, b, u, w⟩
  · have e : rf_io J 0 = -1 := by
      unfold rf_io
      rw [pf_fst_none 7 (fun x hx t => ?_), if_neg (by omega)]
      have t1 := t.1
      have hx' := od_lt hZ hx t1
      exact b (od_c x) (by unfold od_c; split <;> omega) (by unfold od_c; split <;> omega) ((od_th hS h14 hJ hx').1 t1)
    refine ⟨?_, Or.inl e⟩
    rw [e]
    exact a
  · obtain ⟨x, hx, hc⟩ := od_x a b hn.2
    have tx : rf_th J x := (od_th hS h14 hJ hx).2 (hc ▸ u)
    have fst : ∀ y : Nat, (y < sp_n I ∨ y = 6) → rf_th J y → y = x ∨ cl_bf I (od_c x) (od_c y) := by
      intro y hy ty
      rcases w (od_c y) (by unfold od_c; split <;> omega) (by unfold od_c; split <;> omega) ((od_th hS h14 hJ hy).1 ty) with z | z
      · exact Or.inl (od_inj (z.trans hc))
      · exact Or.inr (hc ▸ z)
    have hin : rf_in J 0 x := by
      refine ⟨tx, (pf_cnt_zero 7).2 (fun y hy t => ?_)⟩
      have hy' := od_lt hZ hy t.1
      rcases fst y hy' t.1 with z | z
      · subst z; exact absurd ((od_er hS h13 hJ hx hx tx tx).1 t.2) (bf_irr I)
      · exact bf_asy z ((od_er hS h13 hJ hy' hx t.1 tx).1 t.2)
    have e : rf_io J 0 = x := by
      unfold rf_io
      rw [pf_fst_some hin (fun y hy t => ?_) 7 (by omega), if_pos (by omega)]
      have hy' := od_lt hZ (by omega : y < 7) t.1
      rcases fst y hy' t.1 with z | z
      · omega
      · exact (pf_cnt_zero 7).1 t.2 x (by omega) ⟨tx, (od_er hS h13 hJ hx hy' tx t.1).2 z⟩
    exact ⟨by rw [e, od_cd]; exact hc, Or.inr ⟨x, e, hx, tx, hc, fst⟩⟩
/-- the places are equal -/
theorem od_cnt (hS : rl_S I J) (h14 : I 3 2 = J 8 14) (h13 : I 3 6 = J 8 13) (hJ : ∀ i, i < sp_n I → rl_J I J i now) (hZ : ∀ i, sp_n I ≤ i → i < 6 → rl_Z J i) {x : Nat} (hx : x < sp_n I ∨ x = 6) (tx : rf_th J x) {o : Nat} (ho : (o : Int) + 1 = od_c x) : pf_cnt (sp_n I + 1) (fun y => cl_in I (y + 1) ∧ cl_bf I (y + 1) (o + 1)) = pf_cnt 7 (fun y => rf_th J y ∧ rf_er J y x) := by
  have hn := rl_n6 hS
  rw [pf_cnt_shift, show pf_cnt 7 (fun y => rf_th J y ∧ rf_er J y x) = pf_cnt 6 (fun y => rf_th J y ∧ rf_er J y x) + pb_z (rf_th J 6 ∧ rf_er J 6 x) from rfl]
  have e6 := pf_cnt_ext (p := fun y => rf_th J y ∧ rf_er J y x) (n := sp_n I) (6 - sp_n I) (fun y a b t => od_no hZ a (by omega) t.1)
  rw [show sp_n I + (6 - sp_n I) = 6 by omega] at e6
  rw [e6, Int.add_comm]
  congr 1
  · refine pf_cnt_congr _ (fun y hy => ?_)
    have ey : (((y + 1 : Nat) : Int) + 1) = od_c y := by rw [od_cn (by omega)]; omega
    rw [ey, ho]
    constructor
    · rintro ⟨a, b⟩
      have t := (od_th hS h14 hJ (Or.inl hy)).2 a
      exact ⟨t, (od_er hS h13 hJ (Or.inl hy) hx t tx).2 b⟩
    · rintro ⟨a, b⟩
      exact ⟨(od_th hS h14 hJ (Or.inl hy)).1 a, (od_er hS h13 hJ (Or.inl hy) hx a tx).1 b⟩
  · refine pb_iff ?_
    rw [ho, show (((0 : Nat) : Int) + 1) = od_c 6 from rfl]
    constructor
    · rintro ⟨a, b⟩
      have t := (od_th hS h14 hJ (Or.inr rfl)).2 a
      exact ⟨t, (od_er hS h13 hJ (Or.inr rfl) hx t tx).2 b⟩
    · rintro ⟨a, b⟩
      exact ⟨(od_th hS h14 hJ (Or.inr rfl)).1 a, (od_er hS h13 hJ (Or.inr rfl) hx a tx).1 b⟩
theorem od_uni (hS : rl_S I J) (h14 : I 3 2 = J 8 14) (h13 : I 3 6 = J 8 13) (hJ : ∀ i, i < sp_n I → rl_J I J i now) (hZ : ∀ i, sp_n I ≤ i → i < 6 → rl_Z J i) {x y : Nat} (hx : x < sp_n I ∨ x = 6) (hy : y < sp_n I ∨ y = 6) (tx : rf_th J x) (ty : rf_th J y) (b : cl_bf I (od_c x) (od_c y)) : pf_cnt 7 (fun z => rf_th J z ∧ rf_er J z x) < pf_cnt 7 (fun z => rf_th J z ∧ rf_er J z y) := by
  have hn := rl_n6 hS
  refine pf_cnt_lt (i := x) ⟨tx, (od_er hS h13 hJ hx hy tx ty).2 b⟩ (fun t => bf_irr I ((od_er hS h13 hJ hx hx tx tx).1 t.2)) 7 (fun z hz t => ?_) (by omega)
  have hz' := od_lt hZ hz t.1
  exact ⟨t.1, (od_er hS h13 hJ hz' hy t.1 ty).2 (bf_tr ((od_er hS h13 hJ hz' hx t.1 tx).1 t.2) b)⟩
theorem od_queued (hS : rl_S I J) (h14 : I 3 2 = J 8 14) (h13 : I 3 6 = J 8 13) (hJ : ∀ i, i < sp_n I → rl_J I J i now) (hZ : ∀ i, sp_n I ≤ i → i < 6 → rl_Z J i) (k : Int) : (if pf_fst (sp_n I + 1) (cl_pl I k) < sp_n I + 1 then (pf_fst (sp_n I + 1) (cl_pl I k) : Int) + 1 else 0) = (if k < 0 then 0 else rf_cd (rf_io J k)) := by
  have hn := rl_n6 hS
  have uni : ∀ x y : Nat, (x < sp_n I ∨ x = 6) → (y < sp_n I ∨ y = 6) → rf_in J k x → rf_in J k y → x = y := by
    intro x y hx hy ax ay
    by_cases e : x = y
    · exact e
    · exfalso
      have h1 := ax.2
      have h2 := ay.2
      rcases bf_tot I (a := od_c x) (b := od_c y) (fun z => e (od_inj z)) with z | z
      · have := od_uni hS h14 h13 hJ hZ hx hy ax.1 ay.1 z; omega
      · have := od_uni hS h14 h13 hJ hZ hy hx ay.1 ax.1 z; omega
  by_cases h : ∃ x : Nat, (x < sp_n I ∨ x = 6) ∧ rf_in J k x
  · obtain ⟨x, hx, hin⟩ := h
    have hk : 0 ≤ k := by have := (pf_cnt_rng (fun y => rf_th J y ∧ rf_er J y x) 7).1; have := hin.2; omega
    have e : rf_io J k = x := by
      unfold rf_io
      rw [pf_fst_some hin (fun y hy t => by have := uni y x (od_lt hZ (by omega) t.1) hx t hin; omega) 7 (by omega), if_pos (by omega)]
    obtain ⟨o, ho⟩ : ∃ o : Nat, (o : Int) + 1 = od_c x := ⟨(od_c x - 1).toNat, by unfold od_c; split <;> omega⟩
    have hol : o < sp_n I + 1 := by unfold od_c at ho; split at ho <;> omega
    have hpl : cl_pl I k o := by
      refine ⟨by rw [ho]; exact (od_th hS h14 hJ hx).1 hin.1, ?_⟩
      rw [od_cnt hS h14 h13 hJ hZ hx hin.1 ho]
      exact hin.2
    have e2 : pf_fst (sp_n I + 1) (cl_pl I k) = o := by
      refine pf_fst_some hpl (fun q hq t => ?_) _ hol
      obtain ⟨y, hy, hc⟩ := od_x (I := I) (c := (q : Int) + 1) (by omega) (by omega) hn.2
      have t1 := t.1
      have t2 := t.2
      rw [hc] at t1
      have ty := (od_th hS h14 hJ hy).2 t1
      rw [od_cnt hS h14 h13 hJ hZ hy ty hc] at t2
      have := uni y x hy hx ⟨ty, t2⟩ hin
      subst this
      omega
    rw [e2, if_pos hol, if_neg (by omega), e, od_cd]
    exact ho
  · rw [pf_fst_none (sp_n I + 1) (fun q hq t => ?_), if_neg (by omega)]
    · by_cases hk : k < 0
      · rw [if_pos hk]
      · rw [if_neg hk]
        have e : rf_io J k = -1 := by
          unfold rf_io
          rw [pf_fst_none 7 (fun y hy t => h ⟨y, od_lt hZ hy t.1, t⟩), if_neg (by omega)]
        rw [e]
        rfl
    · obtain ⟨y, hy, hc⟩ := od_x (I := I) (c := (q : Int) + 1) (by omega) (by omega) hn.2
      have t1 := t.1
      have t2 := t.2
      rw [hc] at t1
      have ty := (od_th hS h14 hJ hy).2 t1
      rw [od_cnt hS h14 h13 hJ hZ hy ty hc] at t2
      exact h ⟨y, hy, ty, t2⟩
end OD
