/-! the law's cases that change something -/
/-- a case of the law, entered at pc behind m calls -/
def lw_go (s : List Int) (m d : Nat) (M : sp_I) (c n q pc : Nat) : Prop := ∃ (E : sp_I) (c' n' : Nat), lw_in s (m + 1) E ∧ c' ≤ c + 4 ∧ n' ≤ n + 27 ∧ ∀ r : mm_R, (mm_Rn pg_G (d + 7) 104 pc [.ref 7, .ref 0, .ref 8, io_v q] [] (sp_me M c n) r ↔ mm_Rn pg_G (d + 7) 104 601 [.ref 7, .ref 0, .ref 8, io_v q] [] (sp_me E c' n') r)
section LK
variable {M : sp_I} {d c n m q : Nat} {s : List Int}
/-- server -/
theorem lw_c2 (h : lw_in s m M) (hq : (q : Int) + 5 ≤ M 30 0) (hl : M 30 0 ≤ 100000) : lw_go s m d M c n q 220 := by
  have hr := h.1
  have hR := hr.1
  have hK := hr.2.2.2.2.2.1.2.2.1.1
  generalize ha : M 7 ((q : Int) + 1).toNat = a
  generalize hb : M 7 ((q : Int) + 2).toNat = b
  have ra : io_R a := by rw [← ha]; exact hR _ _
  have rb : io_R b := by rw [← hb]; exact hR _ _
  by_cases z : M 0 5 = 0 ∧ 1 ≤ a ∧ a ≤ b ∧ b ≤ 100
  · have hX := ser_rl hr z.2
    have hC : ∀ u v, 7 ≤ u ∧ u < 32 → up_I (up_I (up_I M 3 3 a) 3 4 b) 3 5 a u v = M u v := fun u v w => by rw [up_cell (by omega), up_cell (by omega), up_cell (by omega)]
    have ho : ∀ u v, u ≠ 3 → up_I (up_I (up_I M 3 3 a) 3 4 b) 3 5 a u v = M u v := fun u v w => by rw [up_cell w, up_cell w, up_cell w]
    have hM := lw_mc hr hX.1 hC
    have hN := ser_rl hM z.2
    have h1 := sp_35y (d := d + 5) hR z
    generalize up_I (up_I (up_I M 3 3 a) 3 4 b) 3 5 a = C at *
    have h2 := sp_73y (I := C) (d := d + 6) hM.2.1 (a := a) (b := b) ⟨by rw [hC 8 8 (by omega)]; omega, z.2⟩
    refine ⟨_, _, _, lw_ch h hC (fun u v w => ?_) hN (fun y j hj => ?_) (by rw [ho 0 6 (by decide)]; omega) (by rw [ho 5 1 (by decide)]; omega), Nat.le_add_right c 4 |> Nat.le_trans (Nat.le_refl _), Nat.le_add_right n 27 |> Nat.le_trans (Nat.le_refl _), fun r => ?_⟩
    · rw [up_cell (by omega), up_cell (by omega), up_cell (by omega)]
    · rw [ho _ _ (by unfold ad_j; omega)]
      rw [ho 0 5 (by decide)] at y
      have en : sp_n C = sp_n M := by unfold sp_n; rw [ho 0 4 (by decide)]
      exact h.2.1 y j (by omega)
    · have g := lw_m2 (M := M) (C := C) (E := up_I (up_I (up_I C 8 10 a) 8 11 b) 8 12 a) (c := c) (n := n) (q := q) (r := r) (a := 1) (d := d + 6) (c' := 0) (n' := 0) hq hl (fun k => hC 7 k (by omega)) (hC 30 0 (by omega))
      rw [ha, hb] at g
      exact g h1 h2
  · have h1 := sp_35n (d := d + 5) hR ra rb z
    have h2 := sp_73n (d := d + 6) hR ra rb (by rw [← hK]; exact z)
    rw [← ha, ← hb] at h1 h2
    exact ⟨M, c, n, lw_same h, by omega, by omega, fun r => lw_m2 hq hl (fun _ => rfl) rfl h1 h2⟩
/-- start -/
theorem lw_c3 (h : lw_in s m M) (hq : (q : Int) + 5 ≤ M 30 0) (hl : M 30 0 ≤ 100000) : lw_go s m d M c n q 253 := by
  have hr := h.1
  have hR := hr.1
  have hK := hr.2.2.2.2.2.1.2.2.1
  by_cases z : M 0 5 = 0
  · have hX := start_rl hr
    have hC : ∀ u v, 7 ≤ u ∧ u < 32 → up_I M 0 5 1 u v = M u v := fun u v w => by rw [up_cell (by omega)]
    have ho : ∀ u v, ¬ (u = 0 ∧ v = 5) → up_I M 0 5 1 u v = M u v := fun u v w => by unfold up_I; rw [if_neg w]
    have o5 : up_I M 0 5 1 0 5 = 1 := up_same _ _ _ _
    have hM := lw_mc hr hX.1 hC
    have hN := start_rl hM
    have h1 := sp_36y (d := d + 6) hR z
    generalize up_I M 0 5 1 = C at *
    have h2 := sp_74 (I := C) (d := d + 6) hM.2.1
    rw [if_pos (by rw [hC 8 8 (by omega)]; omega)] at h2
    refine ⟨_, _, _, lw_ch h hC (fun u v w => ?_) hN (fun y j hj => ?_) (by rw [ho 0 6 (by decide)]; omega) (by rw [ho 5 1 (by decide)]; omega), Nat.le_add_right c 4 |> Nat.le_trans (Nat.le_refl _), Nat.le_add_right n 27 |> Nat.le_trans (Nat.le_refl _), fun r => ?_⟩
    · rw [up_cell (by omega)]
    · omega
    · exact lw_m3 (c := c) (n := n) (r := r) hq hl (fun k => hC 7 k (by omega)) (hC 30 0 (by omega)) h1 h2
  · have h1 := sp_36n (d := d + 6) hR z
    have h2 := sp_74 (I := M) (d := d + 6) hR
    rw [if_neg (by omega)] at h2
    have e : up_I M 8 8 1 = M := by
      funext u v
      unfold up_I
      split
      · rename_i w
        rw [w.1, w.2]
        omega
      · rfl
    rw [e] at h2
    exact ⟨M, c, n, lw_same h, by omega, by omega, fun r => lw_m3 hq hl (fun _ => rfl) rfl h1 h2⟩
/-- task -/
theorem lw_c0 (h : lw_in s m M) (hq : (q : Int) + 5 ≤ M 30 0) (hl : M 30 0 ≤ 100000) : lw_go s m d M c n q 124 := by
  have hr := h.1
  have hR := hr.1
  have hK := hr.2.2.2.2.2.1.2.2.1.1
  have hS := hr.2.2.1
  generalize hp : M 7 ((q : Int) + 1).toNat = p
  generalize hs : M 7 ((q : Int) + 2).toNat = sp
  generalize ht : M 7 ((q : Int) + 3).toNat = t
  have rp : io_R p := by rw [← hp]; exact hR _ _
  have rs : io_R sp := by rw [← hs]; exact hR _ _
  have rt : io_R t := by rw [← ht]; exact hR _ _
  by_cases z : M 0 5 = 0 ∧ M 0 4 ≠ 6 ∧ 1 ≤ t ∧ t ≤ sp ∧ sp ≤ p ∧ p ≤ 100
  · have hX := task_rl hr z.2.1 z.2.2
    have hC : ∀ u v, 7 ≤ u ∧ u < 32 → cl_tas M p sp t u v = M u v := fun u v w => tas_o w
    have o0 : ∀ v, v ≠ 4 → cl_tas M p sp t 0 v = M 0 v := fun v w => cl_tas_o _ _ _ (by omega) (by unfold ad_t; omega) (by unfold ad_j; omega) (by unfold ad_c; omega)
    have o5 : ∀ v, cl_tas M p sp t 5 v = M 5 v := fun v => cl_tas_o _ _ _ (by omega) (by unfold ad_t; omega) (by unfold ad_j; omega) (by unfold ad_c; omega)
    have oj : ∀ j, j < sp_n M → cl_tas M p sp t (ad_j j) 1 = M (ad_j j) 1 := fun j w => cl_tas_o _ _ _ (by unfold ad_j; omega) (by unfold ad_j ad_t; omega) (by unfold ad_j; omega) (by unfold ad_j ad_c; omega)
    have on : cl_tas M p sp t (ad_j (sp_n M)) 1 = 0 := by
      unfold cl_tas
      rw [if_neg (by unfold ad_j; omega), if_neg (by unfold ad_j ad_t; omega), if_pos (Or.inl rfl)]
    have en : sp_n (cl_tas M p sp t) = sp_n M + 1 := cl_tas_n hS.1.1.1 p sp t
    have hM := lw_mc hr hX.1 hC
    have hN := task_rl hM z.2.1 z.2.2
    have h1 := sp_33y (d := d + 3) hR hS.1.1 z
    generalize cl_tas M p sp t = C at *
    have hMs := rl_split.1 hM
    have hW := W_of hMs.2.2.1 hMs.2.2.2.2.2.2
    have e80 : C 8 0 = M 0 4 := hM.2.2.1.1.2
    have e88 : C 8 8 = M 8 8 := hC 8 8 (by omega)
    have h2 := sp_70y (I := C) (d := d + 5) hM.2.1 hW (p := p) (s := sp) (c := t) ⟨by omega, by omega, z.2.2⟩
    rw [e80] at h2
    refine ⟨_, _, _, lw_ch h hC (fun u v w => rtas_o w) hN (fun y j hj => ?_) (by rw [o0 6 (by decide)]; omega) (by rw [o5 1]; omega), Nat.le_refl _, Nat.le_refl _, fun r => ?_⟩
    · rw [o0 5 (by decide)] at y
      by_cases ej : j = sp_n M
      · rw [ej]; exact on
      · rw [oj j (by omega)]; exact h.2.1 y j (by omega)
    · have g := lw_m0 (M := M) (C := C) (E := rf_tas C p sp t) (c := c) (n := n) (q := q) (r := r) (a := M 0 4) (d := d + 6) (c' := 4) (n' := 27) hq hl (fun k => hC 7 k (by omega)) (hC 30 0 (by omega))
      rw [hp, hs, ht] at g
      exact g h1 h2
  · have h1 := sp_33n (d := d + 6) hR rp rs rt z
    have h2 := sp_70n (d := d + 5) hR rp rs rt (by rw [← hK, hS.1.2]; exact z)
    rw [← hp, ← hs, ← ht] at h1 h2
    exact ⟨M, c, n, lw_same h, by omega, by omega, fun r => lw_m0 hq hl (fun _ => rfl) rfl h1 h2⟩
end LK
