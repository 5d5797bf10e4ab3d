/-! the law's cases that change something: release, submit, step, section -/
section LN
variable {M : sp_I} {d c n m q : Nat} {s : List Int}
/-- what the reference knows of task i -/
theorem rl_of {I J : sp_I} (h : rl I J) : I 0 5 = J 8 8 ∧ J 8 0 = I 0 4 ∧ J 8 9 = I 5 1 ∧ J 8 29 = I 0 6 := ⟨h.2.2.2.2.2.1.2.2.1.1, h.2.2.1.1.2, h.2.2.2.2.1.1.1.symm, h.2.2.2.2.2.1.2.2.2.1.1.symm⟩
theorem rl_ofi {I J : sp_I} (h : rl I J) {i : Nat} (hi : i < sp_n I) : J 11 i = I (ad_t i) 2 ∧ J 9 i = I (ad_t i) 0 ∧ J 18 i = I (ad_j i) 3 ∧ (J 17 i = 1 ↔ cl_pend I i) ∧ (¬ cl_pend I i → (J 17 i = 2 ↔ 0 < I (ad_j i) 1)) ∧ 0 ≤ I (ad_j i) 3 ∧ I (ad_j i) 3 ≤ I 5 1 := by
  have hT := h.2.2.1.2.1 i hi
  have hJ := (h.2.2.2.2.2.2.1 i hi).1
  have e3 := hJ.1.2.2.1
  have g := hJ.2.2.2.2.1
  have rg := hJ.2.1
  refine ⟨hT.1.2.2.1.symm, hT.1.1.symm, e3.symm, (rl_pend hJ).symm, fun np => ?_, by omega, by omega⟩
  rw [hJ.2.2.1]
  unfold cl_pend at np
  by_cases w : I (ad_j i) 1 = 0
  · rw [if_pos w]; omega
  · rw [if_neg w, if_neg np]; omega
/-- release -/
theorem lw_c6 (h : lw_in s m M) (hm : m ≤ 512) (hq : (q : Int) + 5 ≤ M 30 0) (hl : M 30 0 ≤ 100000) : lw_go s m d M c n q 302 := by
  have hr := h.1
  have hR := hr.1
  have hS := hr.2.2.1
  have hs := rl_split.1 hr
  have hW := W_of hs.2.2.1 hs.2.2.2.2.2.2
  have h51 := hs.2.2.2.2.2
  have h06 := h.2.2.1
  obtain ⟨k5, k0, k9, k29⟩ := rl_of hr
  have hn := rl_n6 hS
  have g := fun r C E a c' n' => lw_m6 (M := M) (C := C) (E := E) (c := c) (n := n) (q := q) (r := r) (a := a) (d := d + 6) (c' := c') (n' := n') hq hl
  generalize ht : M 7 ((q : Int) + 1).toNat = t at g
  generalize ha : M 7 ((q : Int) + 2).toNat = a at g
  have rt : io_R t := by rw [← ht]; exact hR _ _
  have ra : io_R a := by rw [← ha]; exact hR _ _
  by_cases z : M 0 5 = 0
  · exact ⟨M, c, n, lw_same h, by omega, by omega, fun r => g r M M (-1) 0 0 (fun _ => rfl) rfl (sp_39a (d := d + 5) hR z) (sp_80a (d := d + 6) hR (by omega))⟩
  by_cases b : 0 ≤ t ∧ t < M 0 4 ∧ 1 ≤ a ∧ a ≤ M (ad_t t.toNat) 2
  · have hi : t.toNat < sp_n M := by omega
    have et : ((t.toNat : Nat) : Int) = t := by omega
    have fi := rl_ofi hr hi
    by_cases p : cl_pend M t.toNat
    · have h2 := sp_80c (d := d + 5) (i := t.toNat) (a := a) hR hW (by omega) ⟨by omega, by omega, by omega⟩ (fi.2.2.2.1.2 p)
      rw [et] at h2
      exact ⟨M, c, n, lw_same h, by omega, by omega, fun r => g r M M (-3) 0 0 (fun _ => rfl) rfl (sp_39c (d := d + 5) hR hS.1.1 ra z b p) h2⟩
    by_cases y : 0 < M (ad_j t.toNat) 1 ∧ M 5 1 - M (ad_j t.toNat) 3 < M (ad_t t.toNat) 0
    · have h2 := sp_80d (d := d + 5) (i := t.toNat) (a := a) hR hW (by omega) ⟨by omega, by omega, by omega⟩ ((fi.2.2.2.2.1 p).2 y.1) (by omega) (by omega)
      rw [et] at h2
      exact ⟨M, c, n, lw_same h, by omega, by omega, fun r => g r M M (-4) 0 0 (fun _ => rfl) rfl (sp_39d (d := d + 5) hR hS.1.1 ra z b p h51 (by omega) y) h2⟩
    · have hX := rel_rl hr hi (a := a) ⟨by omega, by omega⟩ p (by omega)
      have hC : ∀ u v, 7 ≤ u ∧ u < 32 → cl_rel M t.toNat a u v = M u v := fun u v w => rel_o w
      have o6 : cl_rel M t.toNat a 0 6 = M 0 6 + 1 := cr_06
      have o05 : cl_rel M t.toNat a 0 5 = M 0 5 := cr_o (by unfold ad_c; omega) (by unfold ad_j; omega) (by decide)
      have o51 : cl_rel M t.toNat a 5 1 = M 5 1 := cr_o (by unfold ad_c; omega) (by unfold ad_j; omega) (by decide)
      have hM := lw_mc hr hX.1 hC
      have hN := rel_rl hM hi (a := a) ⟨by omega, by omega⟩ p (by omega)
      have h1 : mm_Rn pg_G (d + 5 + 1) 39 0 [.ref 0, io_v t, io_v a, .retAddr 0] [] (sp_me M 0 0) (some (io_v (M 0 6 + 1)), sp_me (cl_rel M t.toNat a) 0 0) := sp_39e (d := d + 5) hR hS.1.1 ra z b p h51 (by omega) y
      generalize cl_rel M t.toNat a = C at *
      have hMs := rl_split.1 hM
      have hW' := W_of hMs.2.2.1 hMs.2.2.2.2.2.2
      obtain ⟨l5, l0, l9, l29⟩ := rl_of hM
      have fj := rl_ofi hM hi
      have h2 := sp_80e (d := d + 5) (I := C) (i := t.toNat) (a := a) hM.2.1 hW' (by omega) ⟨by omega, by omega, by omega⟩ (fun w => p (fj.2.2.2.1.1 w)) (by omega) (fun w => y ⟨(fj.2.2.2.2.1 p).1 w.1, by omega⟩)
      rw [et, l29] at h2
      exact ⟨rf_rel C t.toNat a, c + 0, n + 0, lw_ch h hC (fun u v w => rrel_o w) hN (fun w => by omega) (by omega) (by omega), by omega, by omega, fun r => g r C _ (M 0 6 + 1) 0 0 (fun k => hC 7 k (by omega)) (hC 30 0 (by omega)) h1 h2⟩
  · have h2 := sp_80b (d := d + 5) (t := t) (a := a) hR hW rt ra (by omega) (fun w => b ⟨w.1, by omega, w.2.2.1, by
      have := (rl_ofi hr (i := t.toNat) (by omega)).1
      omega⟩)
    exact ⟨M, c, n, lw_same h, by omega, by omega, fun r => g r M M (-2) 0 0 (fun _ => rfl) rfl (sp_39b (d := d + 5) hR hS.1.1 rt ra z b) h2⟩
/-- submit -/
theorem lw_c7 (h : lw_in s m M) (hm : m ≤ 512) (hq : (q : Int) + 5 ≤ M 30 0) (hl : M 30 0 ≤ 100000) : lw_go s m d M c n q 335 := by
  have hr := h.1
  have hR := hr.1
  have h51 := (rl_split.1 hr).2.2.2.2.2
  have h5m := h.2.2.2.1
  obtain ⟨k5, k0, k9, k29⟩ := rl_of hr
  have hV := hr.2.2.2.1
  obtain ⟨v3, v4, v5, v6, v2, -⟩ := hV.2.1
  have hv := hV.1
  have g := fun r C E a c' n' => lw_m7 (M := M) (C := C) (E := E) (c := c) (n := n) (q := q) (r := r) (a := a) (d := d + 6) (c' := c') (n' := n') hq hl
  generalize ha : M 7 ((q : Int) + 1).toNat = a at g
  have ra : io_R a := by rw [← ha]; exact hR _ _
  by_cases z : M 0 5 ≠ 0 ∧ 0 < M 3 3 ∧ 1 ≤ a ∧ a ≤ 50
  · by_cases y : M 3 2 = 8
    · exact ⟨M, c, n, lw_same h, by omega, by omega, fun r => g r M M 0 0 0 (fun _ => rfl) rfl (sp_40f (d := d + 4) hR z y) (sp_81n (d := d + 6) hR ra (by omega))⟩
    · have hX := sub_rl hr (a := a) ⟨by omega, by omega⟩ z.2.1 y (by omega)
      have hC : ∀ u v, 7 ≤ u ∧ u < 32 → cl_tk2 (cl_tk1 M (M 5 1)) a u v = M u v := fun u v w => tk_o (by omega)
      have ho : ∀ u v, u ≠ 3 ∧ u ≠ 4 → cl_tk2 (cl_tk1 M (M 5 1)) a u v = M u v := fun u v w => tk_o w
      have hM := lw_mc hr hX.1 hC
      have hN := sub_rl hM (a := a) ⟨by omega, by omega⟩ z.2.1 y (by omega)
      have h1 := sp_40y (d := d + 4) hR hv z h51 y
      generalize cl_tk2 (cl_tk1 M (M 5 1)) a = C at *
      obtain ⟨l5, l0, l9, l29⟩ := rl_of hM
      obtain ⟨w3, w4, w5, w6, w2, -⟩ := hM.2.2.2.1.2.1
      obtain ⟨-, g2, g3, g4, g5, g6, -⟩ := hv
      have h2 := sp_81w (d := d + 6) (I := C) (a := a) hM.2.1 ⟨by omega, by omega, by omega, by omega, by omega⟩ (by omega) (by omega) (by omega) (by omega) (by omega)
      exact ⟨rf_sb2 (rf_sb1 C) a, c + 0, n + 0, lw_ch h hC (fun u v w => rsb_o w) hN (fun w => absurd w (by rw [ho 0 5 (by decide)]; exact z.1)) (by rw [ho 0 6 (by decide)]; omega) (by rw [ho 5 1 (by decide)]; omega), by omega, by omega, fun r => g r C _ 1 0 0 (fun k => hC 7 k (by omega)) (hC 30 0 (by omega)) h1 h2⟩
  · have g3 := hv.2.2.1
    exact ⟨M, c, n, lw_same h, by omega, by omega, fun r => g r M M 0 0 0 (fun _ => rfl) rfl (sp_40n (d := d + 4) hR ra z) (sp_81n (d := d + 6) hR ra (by omega))⟩
/-- step -/
theorem lw_c8 (h : lw_in s m M) (hm : m ≤ 512) (hq : (q : Int) + 5 ≤ M 30 0) (hl : M 30 0 ≤ 100000) : lw_go s m d M c n q 358 := by
  have hr := h.1
  have hR := hr.1
  have h5m := h.2.2.2.1
  obtain ⟨k5, k0, k9, k29⟩ := rl_of hr
  have g := fun r C E a c' n' => lw_m8 (M := M) (C := C) (E := E) (c := c) (n := n) (q := q) (r := r) (a := a) (d := d + 6) (c' := c') (n' := n') hq hl
  generalize ha : M 7 ((q : Int) + 1).toNat = a at g
  have ra : io_R a := by rw [← ha]; exact hR _ _
  by_cases z : M 0 5 ≠ 0 ∧ 0 ≤ a ∧ a ≤ 200
  · obtain ⟨K, hK⟩ : ∃ K : Nat, a = K := ⟨a.toNat, by omega⟩
    subst hK
    have hX := st_rl hr K (by omega)
    have hC : ∀ u v, 7 ≤ u ∧ u < 32 → cl_it M K u v = M u v := fun u v w => it_o (Or.inl w) K
    have o05 : cl_it M K 0 5 = M 0 5 := it_o (Or.inr ⟨rfl, rfl⟩) K
    have hM := lw_mc hr hX.1.1 hC
    obtain ⟨hN, t1, t2, t3, t4, t5⟩ := st_rl hM K (by omega)
    have h1 := sp_41 (d := d) hR (n := K) (by omega) z.1 t4
    generalize cl_it M K = C at *
    have h2 := sp_95 (d := d + 1) (I := C) hM.2.1 (n := K) (by omega) (by rw [hC 8 8 (by omega)]; omega) t5
    rw [show C 0 7 + C 3 8 - (M 0 7 + M 3 8) = rf_sum C K by omega] at h1
    exact ⟨rf_itr C K, c + 0, n + 0, lw_ch h hC (fun u v w => itr_o w K) hN (fun w => by omega) (by omega) (by omega), by omega, by omega, fun r => g r C _ _ 0 0 (fun k => hC 7 k (by omega)) (hC 30 0 (by omega)) h1 h2⟩
  · exact ⟨M, c, n, lw_same h, by omega, by omega, fun r => g r M M (-1) 0 0 (fun _ => rfl) rfl (sp_41n (d := d + 6) hR ra z) (sp_95n (d := d + 6) hR ra (by omega))⟩
theorem se_ag {I J : sp_I} (h : rl I J) {i k : Nat} (hi : i < sp_n I) (hk : k < sp_c I i) {r f t : Int} (hf : f < t) : cl_agree I i r f t k ↔ rf_ag J i r f t k := by
  have hT := h.2.2.1.2.1 i hi
  have hQ := hT.2.2.2.1 k hk
  obtain ⟨e0, e1, e2⟩ := hT.2.2.2.2 k hk
  unfold cl_agree rf_ag
  rw [e1, e2] at hQ
  rw [e0, e1, e2]
  omega
theorem se_iff {I J : sp_I} (h : rl I J) {i : Nat} {r f t : Int} : cl_se I i r f t ↔ rf_se J i r f t ∧ ∀ k, k < rf_p J i → rf_ag J i r f t k := by
  obtain ⟨k5, k0, k9, k29⟩ := rl_of h
  have hn := rl_n6 h.2.2.1
  constructor
  · rintro ⟨a1, a2, a3, a4, a5, a6, a7, a8⟩
    have hi : i < sp_n I := by omega
    have hT := h.2.2.1.2.1 i hi
    have e11 := hT.1.2.2.1
    have e12 := hT.1.2.2.2
    refine ⟨⟨by omega, by omega, by omega, by omega, by omega, by omega, by omega, by omega⟩, fun k hk => ?_⟩
    rw [rl_p hT] at hk
    exact (se_ag h hi hk a5).1 (a8 k hk)
  · rintro ⟨⟨a1, a2, a3, a4, a5, a6, a7, a8⟩, a9⟩
    have hi : i < sp_n I := by omega
    have hT := h.2.2.1.2.1 i hi
    have e11 := hT.1.2.2.1
    have e12 := hT.1.2.2.2
    refine ⟨by omega, by omega, by omega, by omega, by omega, by omega, by omega, fun k hk => ?_⟩
    exact (se_ag h hi hk a6).2 (a9 k (by rw [rl_p hT]; exact hk))
/-- section -/
theorem lw_c1 (h : lw_in s m M) (hq : (q : Int) + 5 ≤ M 30 0) (hl : M 30 0 ≤ 100000) : lw_go s m d M c n q 167 := by
  have hr := h.1
  have hR := hr.1
  have hS := hr.2.2.1
  have hs := rl_split.1 hr
  have hW := W_of hs.2.2.1 hs.2.2.2.2.2.2
  have hn := rl_n6 hS
  have g := fun r C E a c' n' => lw_m1 (M := M) (C := C) (E := E) (c := c) (n := n) (q := q) (r := r) (a := a) (d := d + 6) (c' := c') (n' := n') hq hl
  generalize hj : M 7 ((q : Int) + 1).toNat = j at g
  generalize hx : M 7 ((q : Int) + 2).toNat = x at g
  generalize hf : M 7 ((q : Int) + 3).toNat = f at g
  generalize ht : M 7 ((q : Int) + 4).toNat = t at g
  have rj : io_R j := by rw [← hj]; exact hR _ _
  have rx : io_R x := by rw [← hx]; exact hR _ _
  have rf : io_R f := by rw [← hf]; exact hR _ _
  have rt : io_R t := by rw [← ht]; exact hR _ _
  by_cases z : 0 ≤ j ∧ cl_se M j.toNat x f t
  · obtain ⟨i, hi⟩ : ∃ i : Nat, j = i := ⟨j.toNat, by omega⟩
    subst hi
    obtain ⟨-, z⟩ := z
    rw [Int.toNat_natCast] at z
    obtain ⟨a1, a2, a3, a4, a5, a6, a7, a8⟩ := z
    have z : cl_se M i x f t := ⟨a1, a2, a3, a4, a5, a6, a7, a8⟩
    have hi : i < sp_n M := by omega
    have hP := (hS.2.1 i hi).2.1
    have hns := h.2.1 a1
    have hX := sec_rl hr hns hi a3 ⟨a4, a5, a6⟩ a7
    have hC : ∀ u v, 7 ≤ u ∧ u < 32 → cl_sec2 M i x f t u v = M u v := fun u v w => sec2_o w
    have ho : ∀ u v, u = 0 ∨ u = 5 ∨ (∃ j, u = ad_j j) → cl_sec2 M i x f t u v = M u v := fun u v w => by
      have w2 : u ≠ 2 ∧ u ≠ ad_t i ∧ u ≠ ad_s i (sp_c M i) := by
        have hc := cl_cnt (hS.2.1 i hi).2.2.1
        rcases w with w | w | ⟨k, w⟩
        · rw [w]; unfold ad_t ad_s; omega
        · rw [w]; unfold ad_t ad_s; omega
        · rw [w]; unfold ad_t ad_s ad_j; omega
      unfold cl_sec2
      rw [up_cell w2.1]
      exact cl_sec_o x f t w2.2.2 (fun y => w2.2.1 y.1)
    have hM := lw_mc hr hX.1 hC
    have hN := sec_rl hM hns hi a3 ⟨a4, a5, a6⟩ a7
    have h1 := sp_34y (d := d + 3) hR hS.1.1 (rl_TS hS) (by omega) z
    generalize cl_sec2 M i x f t = C at *
    have hMs := rl_split.1 hM
    have hW' := W_of hMs.2.2.1 hMs.2.2.2.2.2.2
    obtain ⟨b1, b2⟩ := (se_iff hM).1 z
    have h2 := sp_72y (d := d + 5) (I := C) hM.2.1 hW' b1 b2
    refine ⟨rf_sec C i x f t, c + 1, n + 3, lw_ch h hC (fun u v w => rsec_o w) hN (fun w k hk => ?_) (by rw [ho 0 6 (by omega)]; omega) (by rw [ho 5 1 (by omega)]; omega), by omega, by omega, fun r => g r C _ 1 1 3 (fun k => hC 7 k (by omega)) (hC 30 0 (by omega)) h1 h2⟩
    rw [ho _ _ (Or.inr (Or.inr ⟨k, rfl⟩))]
    have en : sp_n C = sp_n M := by unfold sp_n; rw [ho 0 4 (by omega)]
    exact hns k (by omega)
  · have h1 := sp_34n (d := d + 4) hR hS.1.1 (rl_TS hS) rj rx rf rt z
    refine ⟨M, c, n, lw_same h, by omega, by omega, fun r => g r M M 0 0 0 (fun _ => rfl) rfl h1 ?_⟩
    by_cases y : 0 ≤ j ∧ rf_se M j.toNat x f t
    · have h2 := sp_72m (d := d + 5) hR hW y.2 (fun w => z ⟨y.1, (se_iff hr).2 ⟨y.2, w⟩⟩)
      rw [show ((j.toNat : Nat) : Int) = j by omega] at h2
      exact h2
    · exact sp_72n (d := d + 5) hR hW rj rx rf rt y
end LN
