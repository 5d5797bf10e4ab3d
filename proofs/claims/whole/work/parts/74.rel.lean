/-! the relation's core: what depends on neither trace nor misses -/
def rl_K' (I J : sp_I) (t : Int) : Prop := (I 0 5 = J 8 8 ∧ (I 0 5 = 0 ∨ I 0 5 = 1)) ∧ (I 0 6 = J 8 29 ∧ I 0 7 = J 8 30) ∧ (0 ≤ I 0 6 ∧ I 0 6 ≤ 1000000) ∧ (0 ≤ I 0 7 ∧ I 0 7 ≤ t) ∧ (0 ≤ J 8 28 ∧ J 8 28 ≤ t)
def rl_L (I J : sp_I) (i : Nat) (t : Int) : Prop := I (ad_t i) 7 = J 26 i ∧ 0 ≤ I (ad_t i) 7 ∧ I (ad_t i) 7 ≤ t
def rl_Z' (J : sp_I) (i : Nat) : Prop := J 17 i = 0 ∧ J 18 i = 0 ∧ J 19 i = 0 ∧ J 20 i = 0 ∧ J 21 i = 0 ∧ J 22 i = 0 ∧ J 23 i = 0 ∧ J 26 i = 0
def rlc (I J : sp_I) (t : Int) : Prop := rl_S I J ∧ rl_V I J t ∧ rl_K' I J t ∧ (∀ i, i < sp_n I → rl_J I J i t ∧ rl_L I J i t ∧ rl_P I J i t) ∧ (∀ i, sp_n I ≤ i → i < 6 → rl_Z' J i) ∧ rl_D I J ∧ rl_F I J ∧ rl_1 I ∧ rl_2 I
def rlm (I J : sp_I) (t : Int) : Prop := (∀ i, i < sp_n I → I (ad_t i) 6 = J 25 i ∧ 0 ≤ I (ad_t i) 6 ∧ I (ad_t i) 6 ≤ t) ∧ ∀ i, sp_n I ≤ i → i < 6 → J 25 i = 0
theorem rl_split {I J : sp_I} : rl I J ↔ (sp_R I ∧ sp_R J ∧ rlc I J (I 5 1) ∧ rlm I J (I 5 1) ∧ rl_C I J ∧ 0 ≤ I 5 1 ∧ I 5 1 ≤ 1000000) := by
  constructor
  · rintro ⟨hR, hRJ, hS, hV, hC, ⟨-, hk1, hk2, hk3, hk4, hk5, hk6⟩, hA, hZ, hD, hF, h1, h2⟩
    exact ⟨hR, hRJ, ⟨hS, hV, ⟨hk2, hk3, hk4, hk5, hk6⟩, fun i hi => ⟨(hA i hi).1, ⟨(hA i hi).2.1.1.2, (hA i hi).2.1.2.2⟩, (hA i hi).2.2⟩, fun i a b => by
      obtain ⟨z1, z2, z3, z4, z5, z6, z7, z8, z9⟩ := hZ i a b
      exact ⟨z1, z2, z3, z4, z5, z6, z7, z9⟩, hD, hF, h1, h2⟩, ⟨fun i hi => ⟨(hA i hi).2.1.1.1, (hA i hi).2.1.2.1⟩, fun i a b => by
      obtain ⟨z1, z2, z3, z4, z5, z6, z7, z8, z9⟩ := hZ i a b
      exact z8⟩, hC, hk1⟩
  · rintro ⟨hR, hRJ, ⟨hS, hV, ⟨hk2, hk3, hk4, hk5, hk6⟩, hA, hZ, hD, hF, h1, h2⟩, ⟨hm, hmz⟩, hC, hk1⟩
    exact ⟨hR, hRJ, hS, hV, hC, ⟨rfl, hk1, hk2, hk3, hk4, hk5, hk6⟩, fun i hi => ⟨(hA i hi).1, ⟨⟨(hm i hi).1, (hA i hi).2.1.1⟩, (hm i hi).2, (hA i hi).2.1.2⟩, (hA i hi).2.2⟩, fun i a b => by
      obtain ⟨z1, z2, z3, z4, z5, z6, z7, z9⟩ := hZ i a b
      exact ⟨z1, z2, z3, z4, z5, z6, z7, hmz i a b, z9⟩, hD, hF, h1, h2⟩
/-- equal on the class's core, on the reference's core -/
def co_c (I I' : sp_I) : Prop := ∀ u v, ((u = 0 ∨ u = 2 ∨ u = 3 ∨ u = 4 ∨ 32 ≤ u) ∧ (v ≠ 6 ∨ u % 8 ≠ 0 ∨ u < 32)) → I' u v = I u v
def co_r (J J' : sp_I) : Prop := ∀ u v, ((8 ≤ u ∧ u ≤ 27 ∧ u ≠ 25 ∧ u ≠ 27) ∧ ¬ (u = 8 ∧ (v = 9 ∨ v = 31 ∨ v = 32 ∨ v = 33))) → J' u v = J u v
theorem rlc_co {I I' J J' : sp_I} (e : co_c I I') (f : co_r J J') (t : Int) : rlc I' J' t = rlc I J t := by
  unfold co_c at e
  unfold co_r at f
  have g : ∀ r, rf_ce J' r = rf_ce J r := by
    intro r
    unfold rf_ce
    rw [show rf_cv J' r = rf_cv J r from funext fun i => by simp (disch := omega) only [rf_cv, rf_p, f]]
    simp (disch := omega) only [rf_n, f]
  simp (disch := (first | omega | (simp only [ad_t, ad_j, ad_c, ad_s]; omega))) only [rlc, rl_S, rl_T, rl_V, rl_K', rl_J, rl_L, rl_P, rl_Z', rl_D, rl_F, rl_1, rl_2, rl_bg, cl_pend, cl_held, cl_any, cl_bf, cl_dl, cl_S, cl_Q, cl_V, cl_nd, sp_n, sp_c, g, e, f]
