/-! release keeps the relation -/
section RL
variable {I J : sp_I} {i : Nat} {a : Int}
def cl_rel (I : sp_I) (i : Nat) (a : Int) : sp_I := up_I (cl_begin I i a (I 5 1) (I (ad_t i) 1)) 0 6 (I 0 6 + 1)
theorem cr_o {u v : Nat} (h1 : u ≠ ad_c i) (h2 : u ≠ ad_j i) (h3 : ¬ (u = 0 ∧ v = 6)) : cl_rel I i a u v = I u v := by
  unfold cl_rel
  rw [show up_I (cl_begin I i a (I 5 1) (I (ad_t i) 1)) 0 6 (I 0 6 + 1) u v = cl_begin I i a (I 5 1) (I (ad_t i) 1) u v by unfold up_I; rw [if_neg h3]]
  exact cl_begin_out h1 h2
theorem cr_06 : cl_rel I i a 0 6 = I 0 6 + 1 := by unfold cl_rel; rw [up_same]
theorem cr_c (v : Nat) : cl_rel I i a (ad_c i) v = if v < 6 then 0 else I (ad_c i) v := by
  unfold cl_rel
  rw [up_cell (by unfold ad_c; omega)]
  unfold cl_begin
  by_cases h : v < 6
  · rw [if_pos ⟨rfl, h⟩, if_pos h]
  · rw [if_neg (fun z => h z.2), if_neg h]
    simp only [up_cell (fun z => (ad_jc (i := i) (j := i)) z.symm)]
theorem cr_j (v : Nat) : cl_rel I i a (ad_j i) v = if v = 1 then a else if v = 2 then 0 else if v = 3 then I 5 1 else if v = 4 then I 5 1 + I (ad_t i) 1 else if v = 5 then 0 else if v = 6 then 0 else I (ad_j i) v := by
  unfold cl_rel
  rw [up_cell (by unfold ad_j; omega)]
  unfold cl_begin
  rw [if_neg (fun z => ad_jc z.1)]
  simp only [up_if]
  rcases (by omega : v = 1 ∨ v = 2 ∨ v = 3 ∨ v = 4 ∨ v = 5 ∨ v = 6 ∨ (v ≠ 1 ∧ v ≠ 2 ∧ v ≠ 3 ∧ v ≠ 4 ∧ v ≠ 5 ∧ v ≠ 6)) with z | z | z | z | z | z | ⟨z1, z2, z3, z4, z5, z6⟩
  iterate 6 · subst z; rfl
  · rw [if_neg z6, if_neg z5, if_neg z4, if_neg z3, if_neg z2, if_neg z1, if_neg z1, if_neg z2, if_neg z3, if_neg z4, if_neg z5, if_neg z6]
theorem rr_o {u v : Nat} (h : ¬ (17 ≤ u ∧ u ≤ 23 ∧ v = i) ∧ ¬ (u = 8 ∧ v = 29)) : rf_rel J i a u v = J u v := by
  unfold rf_rel up_I
  rw [if_neg (by omega), if_neg (by omega), if_neg (by omega), if_neg (by omega), if_neg (by omega), if_neg (by omega), if_neg (by omega), if_neg (by omega)]
theorem rr_i : rf_rel J i a 17 i = 1 ∧ rf_rel J i a 18 i = J 8 9 ∧ rf_rel J i a 19 i = a ∧ rf_rel J i a 20 i = 0 ∧ rf_rel J i a 21 i = 0 ∧ rf_rel J i a 22 i = 0 ∧ rf_rel J i a 23 i = 0 ∧ rf_rel J i a 8 29 = J 8 29 + 1 := by
  unfold rf_rel
  simp (disch := decide) only [up_same, up_cell]
  exact ⟨trivial, trivial, trivial, trivial, trivial, trivial, trivial, trivial⟩
theorem rel_rl (h : rl I J) (hi : i < sp_n I) (ha : 1 ≤ a ∧ a ≤ I (ad_t i) 2) (hp : ¬ cl_pend I i) (h6 : I 0 6 + 1 ≤ 1000000) : rl (cl_rel I i a) (rf_rel J i a) := by
  obtain ⟨hR, hRJ, ⟨hS, hV, ⟨k1, k2, k3, k4, k5⟩, hA, hZ, hD, hF, h1, h2⟩, hm, hC, h5⟩ := rl_split.1 h
  have hn := rl_n6 hS
  have n9 : J 8 9 = I 5 1 := hC.1.1.symm
  have hP := (hS.2.1 i hi).2.1
  have e51 : cl_rel I i a 5 1 = I 5 1 := cr_o (by unfold ad_c; omega) (by unfold ad_j; omega) (by decide)
  have ct : ∀ j v, cl_rel I i a (ad_t j) v = I (ad_t j) v := fun j v => cr_o (by unfold ad_c ad_t; omega) (by unfold ad_j ad_t; omega) (by unfold ad_t; omega)
  have cs : ∀ j k v, k < 4 → cl_rel I i a (ad_s j k) v = I (ad_s j k) v := fun j k v hk => cr_o (by unfold ad_c ad_s; omega) (by unfold ad_j ad_s; omega) (by unfold ad_s; omega)
  have cj : ∀ j v, j ≠ i → cl_rel I i a (ad_j j) v = I (ad_j j) v := fun j v e => cr_o ad_jc (fun z => e (ad_jj z)) (by unfold ad_j; omega)
  have ccc : ∀ j v, j ≠ i → cl_rel I i a (ad_c j) v = I (ad_c j) v := fun j v e => cr_o (fun z => e (ad_cc z)) (fun z => ad_jc z.symm) (by unfold ad_c; omega)
  have c0 : ∀ u v, u < 32 → ¬ (u = 0 ∧ v = 6) → cl_rel I i a u v = I u v := fun u v q r => cr_o (by unfold ad_c; omega) (by unfold ad_j; omega) r
  obtain ⟨r17, r18, r19, r20, r21, r22, r23, r29⟩ := rr_i (J := J) (i := i) (a := a)
  have en : sp_n (cl_rel I i a) = sp_n I := by unfold sp_n; rw [c0 0 4 (by decide) (by decide)]
  have ec : ∀ j, sp_c (cl_rel I i a) j = sp_c I j := fun j => by unfold sp_c; rw [ct]
  have hc4 : ∀ j, j < sp_n I → sp_c I j ≤ 4 := fun j hj => (cl_cnt (hS.2.1 j hj).2.2.1).2
  have hS' : rl_S (cl_rel I i a) (rf_rel J i a) := rlS_co (c0 0 4 (by decide) (by decide)) (fun j v _ => ct j v) cs (fun v => c0 2 v (by decide) (by omega)) (fun u v q => rr_o (by omega)) hS
  have j1 := cr_j (I := I) (i := i) (a := a) 1
  have j2 := cr_j (I := I) (i := i) (a := a) 2
  have j3 := cr_j (I := I) (i := i) (a := a) 3
  have j4 := cr_j (I := I) (i := i) (a := a) 4
  have j5 := cr_j (I := I) (i := i) (a := a) 5
  have j6 := cr_j (I := I) (i := i) (a := a) 6
  simp only [reduceIte, Nat.reduceEqDiff] at j1 j2 j3 j4 j5 j6
  have pj : ∀ j, j ≠ i → (cl_pend (cl_rel I i a) j ↔ cl_pend I j) := fun j e => by unfold cl_pend; rw [cj j 1 e, cj j 2 e]
  have bgj : ∀ j, j ≠ i → (rl_bg (cl_rel I i a) j ↔ rl_bg I j) := fun j e => by unfold rl_bg; rw [pj j e, cj j 2 e]
  have bgi : ¬ rl_bg (cl_rel I i a) i := fun z => by have := z.2; rw [j2] at this; omega
  have bne : ∀ j, rl_bg (cl_rel I i a) j → j ≠ i := fun j z e => by subst e; exact bgi z
  have bf : ∀ x y, x ≠ i → y ≠ i → (cl_bf (cl_rel I i a) (2 + (x : Int)) (2 + (y : Int)) ↔ cl_bf I (2 + (x : Int)) (2 + (y : Int))) := fun x y p q => by rw [bf_j, bf_j, cj x 4 p, cj y 4 q]
  have hd : ∀ j k, j ≠ i → k < 4 → (cl_held (cl_rel I i a) j k ↔ cl_held I j k) := fun j k e hk => by unfold cl_held; rw [pj j e, cj j 2 e, cs j k 1 hk, cs j k 2 hk]
  have an : ∀ j, j < sp_n I → j ≠ i → (cl_any (cl_rel I i a) j ↔ cl_any I j) := fun j hj e => by
    unfold cl_any
    rw [ec]
    have := hc4 j hj
    exact ⟨fun ⟨k, p, b⟩ => ⟨k, p, (hd j k e (by omega)).1 b⟩, fun ⟨k, p, b⟩ => ⟨k, p, (hd j k e (by omega)).2 b⟩⟩
  have ani : ¬ cl_any (cl_rel I i a) i := by
    rintro ⟨k, hk, hh⟩
    exact bgi (rl_hbg hS' (by omega) hk hh)
  refine rl_split.2 ⟨fun u v => ?_, fun u v => ?_, ?_, ?_, ?_, by rw [e51]; exact h5⟩
  · by_cases u1 : u = ad_c i
    · subst u1; rw [cr_c]; split; decide; exact hR _ v
    · by_cases u2 : u = ad_j i
      · subst u2
        rw [cr_j]
        have := hR (ad_j i) v
        repeat' split
        all_goals first | omega | exact this
      · by_cases u3 : u = 0 ∧ v = 6
        · rw [u3.1, u3.2, cr_06]; omega
        · rw [cr_o u1 u2 u3]; exact hR u v
  · by_cases u1 : 17 ≤ u ∧ u ≤ 23 ∧ v = i
    · obtain ⟨p, q, rfl⟩ := u1
      rcases (by omega : u = 17 ∨ u = 18 ∨ u = 19 ∨ u = 20 ∨ u = 21 ∨ u = 22 ∨ u = 23) with z | z | z | z | z | z | z <;> subst z <;> omega
    · by_cases u3 : u = 8 ∧ v = 29
      · rw [u3.1, u3.2, r29]; omega
      · rw [rr_o ⟨u1, u3⟩]; exact hRJ u v
  · rw [e51]
    refine ⟨hS', ?_, ?_, fun j hj => ?_, fun j p q => ?_, ?_, ?_, ?_, ?_⟩
    · exact (rlV_co (fun v => c0 3 v (by decide) (by omega)) (fun v => c0 4 v (by decide) (by omega)) (fun v q => rr_o (by omega)) (fun v => rr_o (by omega))).2 hV
    · refine ⟨?_, ⟨?_, ?_⟩, ?_, ?_, ?_⟩
      · rw [c0 0 5 (by decide) (by decide), rr_o (by omega)]; exact k1
      · rw [cr_06, r29, k2.1]
      · rw [c0 0 7 (by decide) (by decide), rr_o (by omega)]; exact k2.2
      · rw [cr_06]; omega
      · rw [c0 0 7 (by decide) (by decide)]; exact k4
      · rw [rr_o (by omega)]; exact k5
    · rw [en] at hj
      by_cases e : j = i
      · subst e
        obtain ⟨⟨⟨a1, a2, a3, a4, a5⟩, b, c17, d4, e18, f21⟩, l, ⟨p1, p2, p3, p4, p5, p6⟩⟩ := hA j hj
        have t10 := (hS.2.1 j hj).1.2.1
        refine ⟨⟨⟨by rw [j1, r19], by rw [j2, r20], by rw [j3, r18, n9], by rw [j5, r23], by rw [j6, r21]⟩, by rw [j1, j2]; omega, ?_, fun _ => ?_, by rw [r18, j2]; omega, by rw [r21]; omega⟩, ?_, ⟨by rw [ct]; exact p1, by rw [ct]; exact p2, fun z => absurd z ani, fun _ => r22, ?_, ?_⟩⟩
        · rw [r17, j1, j2, if_neg (by omega), if_pos (by omega)]
        · rw [j4, r18, n9, rr_o (by omega), t10]
        · unfold rl_L; rw [ct, rr_o (by omega)]; exact l
        · rw [r22, rr_o (by omega)]; omega
        · rw [r23]
          refine ((pf_cnt_zero 6).2 (fun k hk z => z ?_)).symm
          rw [cr_c, if_pos hk]
      · obtain ⟨⟨⟨a1, a2, a3, a4, a5⟩, b, c17, d4, e18, f21⟩, l, ⟨p1, p2, p3, p4, p5, p6⟩⟩ := hA j hj
        unfold rl_J rl_L rl_P
        rw [cj j 1 e, cj j 2 e, cj j 3 e, cj j 4 e, cj j 5 e, cj j 6 e, ct, ct, ct, rr_o (by omega), rr_o (by omega), rr_o (by omega), rr_o (by omega), rr_o (by omega), rr_o (by omega), rr_o (by omega), rr_o (by omega), rr_o (by omega), rr_o (by omega), an j hj e]
        simp only [ccc j _ e]
        exact ⟨⟨⟨a1, a2, a3, a4, a5⟩, b, c17, d4, e18, f21⟩, l, ⟨p1, p2, p3, p4, p5, p6⟩⟩
    · rw [en] at p
      obtain ⟨z1, z2, z3, z4, z5, z6, z7, z8⟩ := hZ j p q
      unfold rl_Z'
      rw [rr_o (by omega), rr_o (by omega), rr_o (by omega), rr_o (by omega), rr_o (by omega), rr_o (by omega), rr_o (by omega), rr_o (by omega)]
      exact ⟨z1, z2, z3, z4, z5, z6, z7, z8⟩
    · intro j b hj hb pj1 bb bfb
      rw [en] at hj hb
      have bi := bne b bb
      by_cases e : j = i
      · subst e
        rw [cr_c, if_pos (by omega), r23]
        exact ⟨Or.inl rfl, fun _ => ⟨fun ⟨k, hk, _⟩ => absurd hk (by omega), fun z => absurd rfl z⟩⟩
      · rw [bf j b e bi] at bfb
        have := hD j b hj hb ((pj j e).1 pj1) ((bgj b bi).1 bb) bfb
        rw [ccc j b e, ct, rr_o (by omega), rr_o (by omega)]
        have e24 : ∀ k, rf_rel J i a 24 (60 * j + k) = J 24 (60 * j + k) := fun k => rr_o (by omega)
        simp only [e24]
        exact this
    · intro x y hx hy hxy z22
      rw [en] at hx hy
      by_cases e : x = i
      · subst e; exact absurd r22 z22
      · rw [rr_o (by omega)] at z22 ⊢
        by_cases e2 : y = i
        · subst e2; rw [r22]; exact z22
        · rw [rr_o (by omega)]; exact hF x y hx hy hxy z22
    · intro j x hj hx bj px nx bfb
      rw [en] at hj hx
      have ji := bne j bj
      have bj0 := (bgj j ji).1 bj
      by_cases e : x = i
      · subst e
        rw [cj j 3 ji, j3]
        have q := (hA j hj).1.2.2.2.2.1.2.2 bj0.2
        have q2 := (hA j hj).1.1.2.2.1
        omega
      · rw [cj j 3 ji, cj x 3 e]
        rw [cj x 2 e] at nx
        exact h1 j x hj hx bj0 ((pj x e).1 px) nx ((bf x j e ji).1 bfb)
    · intro x y hx hy bx by' bfb k hk hh
      rw [en] at hx hy
      rw [ec] at hk
      have xi := bne x bx
      have yi := bne y by'
      have := hc4 x hx
      rw [cs x k 0 (by omega), c0 2 _ (by decide) (by omega), ct]
      exact h2 x y hx hy ((bgj x xi).1 bx) ((bgj y yi).1 by') ((bf y x yi xi).1 bfb) k hk ((hd x k xi (by omega)).1 hh)
  · rw [e51]
    refine ⟨fun j hj => ?_, fun j p q => ?_⟩
    · rw [en] at hj
      rw [ct, rr_o (by omega)]; exact hm.1 j hj
    · rw [en] at p
      rw [rr_o (by omega)]; exact hm.2 j p q
  · obtain ⟨⟨q1, q2, q3, q4⟩, q5, q6, q7⟩ := hC
    unfold rl_C
    rw [e51, c0 5 2 (by decide) (by decide), c0 5 3 (by decide) (by decide), rr_o (by omega), rr_o (by omega), rr_o (by omega), rr_o (by omega)]
    refine ⟨⟨q1, q2, q3, q4⟩, q5, q6, fun k hk => ?_⟩
    rw [c0 6 k (by decide) (by omega), rr_o (by omega)]
    exact q7 k hk
end RL
