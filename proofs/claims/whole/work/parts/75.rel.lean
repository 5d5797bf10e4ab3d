/-! idle tick and server's tick -/
theorem up_if (I : sp_I) (x k v : Nat) (a : Int) : up_I I x k a x v = if v = k then a else I x v := by
  unfold up_I
  by_cases h : v = k
  · rw [if_pos ⟨rfl, h⟩, if_pos h]
  · rw [if_neg (fun z => h z.2), if_neg h]
/-- the core without the server -/
def rld (I J : sp_I) (t : Int) : Prop := rl_S I J ∧ rl_K' I J t ∧ (∀ i, i < sp_n I → rl_J I J i t ∧ rl_L I J i t ∧ rl_P I J i t) ∧ (∀ i, sp_n I ≤ i → i < 6 → rl_Z' J i) ∧ rl_D I J ∧ rl_F I J ∧ rl_1 I ∧ rl_2 I
theorem rlc_d {I J : sp_I} {t : Int} : rlc I J t ↔ rld I J t ∧ rl_V I J t := by
  unfold rlc rld
  constructor
  · rintro ⟨a, b, c⟩; exact ⟨⟨a, c⟩, b⟩
  · rintro ⟨⟨a, c⟩, b⟩; exact ⟨a, b, c⟩
def co_d (I I' : sp_I) : Prop := ∀ u v, ((u = 0 ∨ u = 2 ∨ 32 ≤ u) ∧ (v ≠ 6 ∨ u % 8 ≠ 0 ∨ u < 32)) → I' u v = I u v
def co_e (J J' : sp_I) : Prop := ∀ u v, ((8 ≤ u ∧ u ≤ 27 ∧ u ≠ 16 ∧ u ≠ 25 ∧ u ≠ 27) ∧ ¬ (u = 8 ∧ (v = 9 ∨ v = 10 ∨ v = 11 ∨ v = 12 ∨ v = 13 ∨ v = 14 ∨ v = 16 ∨ v = 17 ∨ v = 31 ∨ v = 32 ∨ v = 33))) → J' u v = J u v
theorem bf_j (I : sp_I) (i j : Nat) : cl_bf I (2 + (j : Int)) (2 + (i : Int)) ↔ (I (ad_j j) 4 < I (ad_j i) 4 ∨ (I (ad_j j) 4 = I (ad_j i) 4 ∧ j < i)) := by
  unfold cl_bf cl_dl
  rw [if_neg (by omega), if_neg (by omega), show (2 + (j : Int) - 2).toNat = j by omega, show (2 + (i : Int) - 2).toNat = i by omega]
  omega
theorem rld_co {I I' J J' : sp_I} (e : co_d I I') (f : co_e J J') (t : Int) : rld I' J' t = rld I J t := by
  unfold co_d at e
  unfold co_e at f
  have g : ∀ r, rf_ce J' r = rf_ce J r := by
    intro r
    unfold rf_ce
    rw [show rf_cv J' r = rf_cv J r from funext fun i => by simp (disch := omega) only [rf_cv, rf_p, f]]
    simp (disch := omega) only [rf_n, f]
  simp (disch := (first | omega | (simp only [ad_t, ad_j, ad_c, ad_s]; omega))) only [rld, rl_S, rl_T, rl_K', rl_J, rl_L, rl_P, rl_Z', rl_D, rl_F, rl_1, rl_2, rl_bg, cl_pend, cl_held, cl_any, bf_j, cl_S, cl_Q, sp_n, sp_c, g, e, f]
theorem rld_up {I J : sp_I} {t : Int} (h : rld I J t) : rld I J (t + 1) := by
  obtain ⟨hS, ⟨k1, k2, k3, k4, k5⟩, hA, hr⟩ := h
  refine ⟨hS, ⟨k1, k2, k3, by omega, by omega⟩, fun i hi => ?_, hr⟩
  obtain ⟨⟨a1, a2, a3, a4, a5, a6⟩, ⟨b1, b2⟩, ⟨c1, c2, c3⟩⟩ := hA i hi
  exact ⟨⟨a1, a2, a3, a4, ⟨a5.1, by omega, fun z => by have := a5.2.2 z; omega⟩, by omega⟩, ⟨b1, by omega⟩, ⟨by omega, by omega, c3⟩⟩
theorem rlV_up {I J : sp_I} {t : Int} (h : rl_V I J t) : rl_V I J (t + 1) := by
  obtain ⟨a1, a2, a3, a4, a5, a6, a7⟩ := h
  exact ⟨a1, a2, a3, a4, a5, by omega, by omega⟩
section SV
variable {I J : sp_I} {now : Int}
theorem nd_0 (hV : rl_V I J now) (hw : 0 < I 3 2) : I 4 (I 3 1).toNat = J 16 0 ∧ 1 ≤ J 16 0 := by
  have h := hV.2.2.1 0 (by omega)
  have h1 := hV.1.1
  unfold cl_nd at h
  rw [show ((I 3 1 + ((0 : Nat) : Int)) % 8).toNat = (I 3 1).toNat by omega] at h
  exact h
theorem sv_1 (hV : rl_V I J now) (hw : 0 < I 3 2) (hn : now ≤ 150000) : rl_V (cl_sv2 (cl_sv1 I)) (rf_s3 (rf_s2 J)) (now + 1) := by
  have h0 := nd_0 hV hw
  obtain ⟨⟨v1, v2, v3, v4, v5, v6, v7, v8, v9⟩, ⟨e1, e2, e3, e4, e5, e6, e7⟩, hk, hj, hor, hd, hu⟩ := hV
  have hnd : ∀ k : Nat, (k : Int) < I 3 2 → 0 < k → ((I 3 1 + (k : Int)) % 8).toNat ≠ (I 3 1).toNat := fun k a b => by omega
  have h9 := v9 (I 3 1).toNat (by omega)
  by_cases n1 : J 16 0 - 1 = 0
  · have n1' : I 4 (I 3 1).toNat - 1 = 0 := by omega
    have E1 : cl_sv1 I = up_I (up_I (up_I (up_I I 4 (I 3 1).toNat (I 4 (I 3 1).toNat - 1)) 3 1 ((I 3 1 + 1) % 8)) 3 2 (I 3 2 - 1)) 3 8 (I 3 8 + 1) := by unfold cl_sv1; rw [if_pos n1']
    have F1 : rf_s2 J = up_I (up_I (rf_sh (rf_s1 J) (J 8 14).toNat) 8 14 (J 8 14 - 1)) 8 17 (J 8 17 + 1) := by unfold rf_s2; rw [if_pos n1]
    have G8 : ∀ v, rf_sh (rf_s1 J) (J 8 14).toNat 8 v = if v = 12 then J 8 12 - 1 else J 8 v := fun v => by
      rw [rf_sh_8 _ _ (by decide)]; unfold rf_s1; rw [up_if, up_cell (by decide)]
    have G16 : ∀ v, rf_sh (rf_s1 J) (J 8 14).toNat 16 v = if v + 1 < (J 8 14).toNat then J 16 (v + 1) else if v = 0 then 0 else J 16 v := fun v => by
      unfold rf_sh rf_s1
      by_cases q : v + 1 < (J 8 14).toNat
      · rw [if_pos ⟨rfl, q⟩, if_pos q, up_cell (by decide), up_slot (by omega)]
      · rw [if_neg (fun z => q z.2), if_neg q, up_cell (by decide), up_if, n1]
    have N1 : ∀ k : Nat, (k : Int) < I 3 2 - 1 → I 4 (((I 3 1 + 1) % 8 + (k : Int)) % 8).toNat = J 16 (k + 1) ∧ 1 ≤ J 16 (k + 1) ∧ (((I 3 1 + 1) % 8 + (k : Int)) % 8).toNat ≠ (I 3 1).toNat := fun k q => by
      have h := hk (k + 1) (by omega)
      unfold cl_nd at h
      rw [show ((I 3 1 + ((k + 1 : Nat) : Int)) % 8) = (((I 3 1 + 1) % 8 + (k : Int)) % 8) by omega] at h
      exact ⟨h.1, h.2, by omega⟩
    by_cases b1 : J 8 12 - 1 = 0
    · have b1' : cl_sv1 I 3 5 - 1 = 0 := by rw [E1, up_slot (by decide), up_slot (by decide), up_slot (by decide), up_cell (by decide)]; omega
      have E2 : cl_sv2 (cl_sv1 I) = up_I (up_I (up_I (up_I (cl_sv1 I) 3 5 (cl_sv1 I 3 5 - 1)) 3 5 (cl_sv1 I 3 3)) 3 6 (cl_sv1 I 3 6 + cl_sv1 I 3 4)) 3 7 (cl_sv1 I 3 7 + 1) := by unfold cl_sv2; rw [if_pos b1']
      have F2 : rf_s3 (rf_s2 J) = up_I (up_I (up_I (rf_s2 J) 8 12 (rf_s2 J 8 10)) 8 13 (rf_s2 J 8 13 + rf_s2 J 8 11)) 8 16 (rf_s2 J 8 16 + 1) := by
        unfold rf_s3
        rw [if_pos]
        rw [F1, up_slot (by decide), up_slot (by decide), G8, if_pos rfl]
        exact b1
      rw [E2, F2, E1, F1]
      unfold rl_V cl_V cl_nd
      simp (disch := decide) only [up_same, up_slot, up_cell, up_if, G8, G16, reduceIte, Nat.reduceEqDiff]
      refine ⟨⟨by omega, by omega, by omega, by omega, by omega, by omega, by omega, by omega, fun k q => ?_⟩, ⟨by omega, by omega, by omega, by omega, by omega, by omega, by omega⟩, fun k q => ?_, fun k q => ?_, Or.inr (by omega), by omega, by omega⟩
      · split
        · omega
        · exact v9 k q
      · obtain ⟨a, b, c⟩ := N1 k q
        rw [if_neg c, if_pos (by omega)]
        exact ⟨a, b⟩
      · have := hj k q
        split
        · exact hj (k + 1) (by omega)
        · split <;> omega
    · have b1' : ¬ cl_sv1 I 3 5 - 1 = 0 := by rw [E1, up_slot (by decide), up_slot (by decide), up_slot (by decide), up_cell (by decide)]; omega
      have E2 : cl_sv2 (cl_sv1 I) = up_I (cl_sv1 I) 3 5 (cl_sv1 I 3 5 - 1) := by unfold cl_sv2; rw [if_neg b1']
      have F2 : rf_s3 (rf_s2 J) = rf_s2 J := by
        unfold rf_s3
        rw [if_neg]
        rw [F1, up_slot (by decide), up_slot (by decide), G8, if_pos rfl]
        exact b1
      rw [E2, F2, E1, F1]
      unfold rl_V cl_V cl_nd
      simp (disch := decide) only [up_same, up_slot, up_cell, up_if, G8, G16, reduceIte, Nat.reduceEqDiff]
      refine ⟨⟨by omega, by omega, by omega, by omega, by omega, by omega, by omega, by omega, fun k q => ?_⟩, ⟨by omega, by omega, by omega, by omega, by omega, by omega, by omega⟩, fun k q => ?_, fun k q => ?_, Or.inr (by omega), by omega, by omega⟩
      · split
        · omega
        · exact v9 k q
      · obtain ⟨a, b, c⟩ := N1 k q
        rw [if_neg c, if_pos (by omega)]
        exact ⟨a, b⟩
      · have := hj k q
        split
        · exact hj (k + 1) (by omega)
        · split <;> omega
  · have n1' : ¬ I 4 (I 3 1).toNat - 1 = 0 := by omega
    have E1 : cl_sv1 I = up_I I 4 (I 3 1).toNat (I 4 (I 3 1).toNat - 1) := by unfold cl_sv1; rw [if_neg n1']
    have F1 : rf_s2 J = rf_s1 J := by unfold rf_s2; rw [if_neg n1]
    have G8 : ∀ v, rf_s1 J 8 v = if v = 12 then J 8 12 - 1 else J 8 v := fun v => by
      unfold rf_s1; rw [up_if, up_cell (by decide)]
    have G16 : ∀ v, rf_s1 J 16 v = if v = 0 then J 16 0 - 1 else J 16 v := fun v => by
      unfold rf_s1; rw [up_cell (by decide), up_if]
    have N1 : ∀ k : Nat, (k : Int) < I 3 2 → (if ((I 3 1 + (k : Int)) % 8).toNat = (I 3 1).toNat then I 4 (I 3 1).toNat - 1 else I 4 ((I 3 1 + (k : Int)) % 8).toNat) = (if k = 0 then J 16 0 - 1 else J 16 k) ∧ 1 ≤ (if k = 0 then J 16 0 - 1 else J 16 k) := fun k q => by
      by_cases k0 : k = 0
      · subst k0
        rw [if_pos (by omega), if_pos rfl]
        omega
      · have h := hk k q
        unfold cl_nd at h
        rw [if_neg (hnd k q (by omega)), if_neg k0]
        exact h
    by_cases b1 : J 8 12 - 1 = 0
    · have b1' : cl_sv1 I 3 5 - 1 = 0 := by rw [E1, up_cell (by decide)]; omega
      have E2 : cl_sv2 (cl_sv1 I) = up_I (up_I (up_I (up_I (cl_sv1 I) 3 5 (cl_sv1 I 3 5 - 1)) 3 5 (cl_sv1 I 3 3)) 3 6 (cl_sv1 I 3 6 + cl_sv1 I 3 4)) 3 7 (cl_sv1 I 3 7 + 1) := by unfold cl_sv2; rw [if_pos b1']
      have F2 : rf_s3 (rf_s2 J) = up_I (up_I (up_I (rf_s2 J) 8 12 (rf_s2 J 8 10)) 8 13 (rf_s2 J 8 13 + rf_s2 J 8 11)) 8 16 (rf_s2 J 8 16 + 1) := by
        unfold rf_s3
        rw [if_pos]
        rw [F1, G8, if_pos rfl]
        exact b1
      rw [E2, F2, E1, F1]
      unfold rl_V cl_V cl_nd
      simp (disch := decide) only [up_same, up_slot, up_cell, up_if, G8, G16, reduceIte, Nat.reduceEqDiff]
      refine ⟨⟨by omega, by omega, by omega, by omega, by omega, by omega, by omega, by omega, fun k q => ?_⟩, ⟨by omega, by omega, by omega, by omega, by omega, by omega, by omega⟩, N1, fun k q => ?_, Or.inr (by omega), by omega, by omega⟩
      · split
        · omega
        · exact v9 k q
      · have := hj k q
        split
        · have := hj 0 (by omega); omega
        · exact this
    · have b1' : ¬ cl_sv1 I 3 5 - 1 = 0 := by rw [E1, up_cell (by decide)]; omega
      have E2 : cl_sv2 (cl_sv1 I) = up_I (cl_sv1 I) 3 5 (cl_sv1 I 3 5 - 1) := by unfold cl_sv2; rw [if_neg b1']
      have F2 : rf_s3 (rf_s2 J) = rf_s2 J := by
        unfold rf_s3
        rw [if_neg]
        rw [F1, G8, if_pos rfl]
        exact b1
      rw [E2, F2, E1, F1]
      unfold rl_V cl_V cl_nd
      simp (disch := decide) only [up_same, up_slot, up_cell, up_if, G8, G16, reduceIte, Nat.reduceEqDiff]
      refine ⟨⟨by omega, by omega, by omega, by omega, by omega, by omega, by omega, by omega, fun k q => ?_⟩, ⟨by omega, by omega, by omega, by omega, by omega, by omega, by omega⟩, N1, fun k q => ?_, Or.inr (by omega), by omega, by omega⟩
      · split
        · omega
        · exact v9 k q
      · have := hj k q
        split
        · have := hj 0 (by omega); omega
        · exact this
end SV
