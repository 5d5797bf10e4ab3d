theorem mm_new_lv {T : mm_T} {x kd len : Nat} (_ : T x = none) : mm_lv (mm_alT T x kd len) (.ref x) := by
  show mm_alT T x kd len x ≠ none
  unfold mm_alT
  rw [if_pos rfl]
  exact fun z => by cases z
theorem mm_new_cv {φ : Nat → Nat} {x q : Nat} : mm_cv (mm_fu φ x q) (.ref x) = .ref q := by
  show Value.ref (mm_fu φ x q x) = _
  unfold mm_fu
  rw [if_pos rfl]
/-! a case an instruction -/
theorem mm_dcs {S : mm_S} {μ pc n : Nat} {ins : Instr} (h : mm_dc S μ pc ins n = true) : decode (mm_mb S μ) pc = .ok (ins, n) := of_decide_eq_true h
theorem mm_and {a b : Bool} (h : (a && b) = true) : a = true ∧ b = true := by simpa using h
set_option maxHeartbeats 4000000 in
set_option maxRecDepth 20000 in
theorem mm_step {S : mm_S} {Y : mm_Y} {n : Nat} (hG : mm_Good S) (ih : mm_IH S Y n) : mm_IH S Y (n + 1) := by
  intro d μ pc ls st g r h
  change mm_stp S.1 (mm_run S.1 n) d μ pc ls st g = some r at h
  unfold mm_stp at h
  split at h
  · cases h
  rename_i ins a b w htb
  have hok := hG.1 _ _ _ htb
  cases ins with
  | iconst k =>
    have hk := h
    have hd := mm_dcs hok
    refine mm_one ih hk (Nat.le_refl _) (Nat.le_refl _) ?_
    intro p l e R s m args below meth c Q _ _ hN hF hc hs H locs lsA φ hHR hB hL hLR hst hret
    exact lv_iconst hF.1 hF.2.1 hd rfl (hN hF hc hs H locs lsA φ hHR hB hL hLR (mm_cc trivial hst) hret)
  | bipush k =>
    have hk := h
    have hv := of_decide_eq_true (mm_and hok).2
    have hd := mm_dcs (mm_and hok).1
    refine mm_one ih hk (Nat.le_refl _) (Nat.le_refl _) ?_
    intro p l e R s m args below meth c Q _ _ hN hF hc hs H locs lsA φ hHR hB hL hLR hst hret
    exact lv_bipush hF.1 hF.2.1 hd hv (hN hF hc hs H locs lsA φ hHR hB hL hLR (mm_cc trivial hst) hret)
  | sipush k =>
    have hk := h
    have hv := of_decide_eq_true (mm_and hok).2
    have hd := mm_dcs (mm_and hok).1
    refine mm_one ih hk (Nat.le_refl _) (Nat.le_refl _) ?_
    intro p l e R s m args below meth c Q _ _ hN hF hc hs H locs lsA φ hHR hB hL hLR hst hret
    exact lv_sipush hF.1 hF.2.1 hd hv (hN hF hc hs H locs lsA φ hHR hB hL hLR (mm_cc trivial hst) hret)
  | lconst k =>
    have hk := h
    have hd := mm_dcs hok
    refine mm_one ih hk (Nat.le_refl _) (Nat.le_refl _) ?_
    intro p l e R s m args below meth c Q _ _ hN hF hc hs H locs lsA φ hHR hB hL hLR hst hret
    exact lv_lconst hF.1 hF.2.1 hd rfl (hN hF hc hs H locs lsA φ hHR hB hL hLR (mm_cc trivial hst) hret)
  | iload i =>
    obtain ⟨x, hx, hk⟩ := mm_oi_some h
    have hd := mm_dcs hok
    refine mm_one ih hk (Nat.le_refl _) (Nat.le_refl _) ?_
    intro p l e R s m args below meth c Q _ _ hN hF hc hs H locs lsA φ hHR hB hL hLR hst hret
    exact lv_iload hF.1 hF.2.1 hd (hLR.at hx rfl) (hN hF hc hs H locs lsA φ hHR hB hL hLR (mm_cc trivial hst) hret)
  | iload_n i =>
    obtain ⟨x, hx, hk⟩ := mm_oi_some h
    have hd := mm_dcs hok
    refine mm_one ih hk (Nat.le_refl _) (Nat.le_refl _) ?_
    intro p l e R s m args below meth c Q _ _ hN hF hc hs H locs lsA φ hHR hB hL hLR hst hret
    exact lv_iload_n hF.1 hF.2.1 hd rfl (hLR.at hx rfl) (hN hF hc hs H locs lsA φ hHR hB hL hLR (mm_cc trivial hst) hret)
  | aload i =>
    obtain ⟨x, hx, hk⟩ := mm_or_some h
    have hd := mm_dcs hok
    refine mm_one ih hk (Nat.le_refl _) (Nat.le_refl _) ?_
    intro p l e R s m args below meth c Q _ _ hN hF hc hs H locs lsA φ hHR hB hL hLR hst hret
    exact lv_aload hF.1 hF.2.1 hd (hLR.at hx rfl) (hN hF hc hs H locs lsA φ hHR hB hL hLR (mm_cc (hLR.2.2.2.2 _ (List.mem_of_getElem? (mm_ld_some hx rfl))) hst) hret)
  | aload_n i =>
    obtain ⟨x, hx, hk⟩ := mm_or_some h
    have hd := mm_dcs hok
    refine mm_one ih hk (Nat.le_refl _) (Nat.le_refl _) ?_
    intro p l e R s m args below meth c Q _ _ hN hF hc hs H locs lsA φ hHR hB hL hLR hst hret
    exact lv_aload_n hF.1 hF.2.1 hd rfl (hLR.at hx rfl) (hN hF hc hs H locs lsA φ hHR hB hL hLR (mm_cc (hLR.2.2.2.2 _ (List.mem_of_getElem? (mm_ld_some hx rfl))) hst) hret)
  | lload i =>
    obtain ⟨x, hx, hk⟩ := mm_ol_some h
    have hd := mm_dcs hok
    refine mm_one ih hk (Nat.le_refl _) (Nat.le_refl _) ?_
    intro p l e R s m args below meth c Q _ _ hN hF hc hs H locs lsA φ hHR hB hL hLR hst hret
    exact lv_lload hF.1 hF.2.1 hd (hLR.at hx rfl) (hN hF hc hs H locs lsA φ hHR hB hL hLR (mm_cc trivial hst) hret)
  | lload_n i =>
    obtain ⟨x, hx, hk⟩ := mm_ol_some h
    have hd := mm_dcs hok
    refine mm_one ih hk (Nat.le_refl _) (Nat.le_refl _) ?_
    intro p l e R s m args below meth c Q _ _ hN hF hc hs H locs lsA φ hHR hB hL hLR hst hret
    exact lv_lload_n hF.1 hF.2.1 hd rfl (hLR.at hx rfl) (hN hF hc hs H locs lsA φ hHR hB hL hLR (mm_cc trivial hst) hret)
  | istore i =>
    obtain ⟨x, t, rfl, hk⟩ := mm_i1_some h
    obtain ⟨hso, hk⟩ := mm_if_some hk
    have hd := mm_dcs hok
    refine mm_one ih hk (Nat.le_refl _) (Nat.le_refl _) ?_
    intro p l e R s m args below meth c Q _ _ hN hF hc hs H locs lsA φ hHR hB hL hLR hst hret
    exact lv_istore hF.1 hF.2.1 hd hLR.has (by have h1 := mm_so_len hso; have h2 := hLR.2.1; omega) rfl (fun ls' h' => hN hF hc hs H locs ls' φ hHR hB hL (mm_LR.set1 (v := .int x) hLR hso trivial h') (mm_t1 hst) hret)
  | istore_n i =>
    obtain ⟨x, t, rfl, hk⟩ := mm_i1_some h
    obtain ⟨hso, hk⟩ := mm_if_some hk
    have hd := mm_dcs hok
    refine mm_one ih hk (Nat.le_refl _) (Nat.le_refl _) ?_
    intro p l e R s m args below meth c Q _ _ hN hF hc hs H locs lsA φ hHR hB hL hLR hst hret
    exact lv_istore_n hF.1 hF.2.1 hd rfl hLR.has (by have h1 := mm_so_len hso; have h2 := hLR.2.1; omega) rfl (fun ls' h' => hN hF hc hs H locs ls' φ hHR hB hL (mm_LR.set1 (v := .int x) hLR hso trivial h') (mm_t1 hst) hret)
  | astore i =>
    obtain ⟨x, t, rfl, hk⟩ := mm_r1_some h
    obtain ⟨hso, hk⟩ := mm_if_some hk
    have hd := mm_dcs hok
    refine mm_one ih hk (Nat.le_refl _) (Nat.le_refl _) ?_
    intro p l e R s m args below meth c Q _ _ hN hF hc hs H locs lsA φ hHR hB hL hLR hst hret
    exact lv_astore hF.1 hF.2.1 hd hLR.has (by have h1 := mm_so_len hso; have h2 := hLR.2.1; omega) rfl (fun ls' h' => hN hF hc hs H locs ls' φ hHR hB hL (mm_LR.set1 (v := .ref x) hLR hso (mm_h1 hst) h') (mm_t1 hst) hret)
  | astore_n i =>
    obtain ⟨x, t, rfl, hk⟩ := mm_r1_some h
    obtain ⟨hso, hk⟩ := mm_if_some hk
    have hd := mm_dcs hok
    refine mm_one ih hk (Nat.le_refl _) (Nat.le_refl _) ?_
    intro p l e R s m args below meth c Q _ _ hN hF hc hs H locs lsA φ hHR hB hL hLR hst hret
    exact lv_astore_n hF.1 hF.2.1 hd rfl hLR.has (by have h1 := mm_so_len hso; have h2 := hLR.2.1; omega) rfl (fun ls' h' => hN hF hc hs H locs ls' φ hHR hB hL (mm_LR.set1 (v := .ref x) hLR hso (mm_h1 hst) h') (mm_t1 hst) hret)
  | lstore i =>
    obtain ⟨x, t, rfl, hk⟩ := mm_l1_some h
    obtain ⟨hso, hk⟩ := mm_if_some hk
    have hd := mm_dcs hok
    refine mm_one ih hk (Nat.le_refl _) (Nat.le_refl _) ?_
    intro p l e R s m args below meth c Q _ _ hN hF hc hs H locs lsA φ hHR hB hL hLR hst hret
    exact lv_lstore hF.1 hF.2.1 hd hLR.has (by have h1 := mm_so_len hso; have h2 := hLR.2.1; omega) rfl (fun ls' h' => hN hF hc hs H locs ls' φ hHR hB hL (mm_LR.set2 (v := .long x) hLR hso trivial h') (mm_t1 hst) hret)
  | lstore_n i =>
    obtain ⟨x, t, rfl, hk⟩ := mm_l1_some h
    obtain ⟨hso, hk⟩ := mm_if_some hk
    have hd := mm_dcs hok
    refine mm_one ih hk (Nat.le_refl _) (Nat.le_refl _) ?_
    intro p l e R s m args below meth c Q _ _ hN hF hc hs H locs lsA φ hHR hB hL hLR hst hret
    exact lv_lstore_n hF.1 hF.2.1 hd rfl hLR.has (by have h1 := mm_so_len hso; have h2 := hLR.2.1; omega) rfl (fun ls' h' => hN hF hc hs H locs ls' φ hHR hB hL (mm_LR.set2 (v := .long x) hLR hso trivial h') (mm_t1 hst) hret)
  | iinc i k =>
    obtain ⟨x, hx, hk⟩ := mm_oi_some h
    obtain ⟨hso, hk⟩ := mm_if_some hk
    have hd := mm_dcs hok
    refine mm_one ih hk (Nat.le_refl _) (Nat.le_refl _) ?_
    intro p l e R s m args below meth c Q _ _ hN hF hc hs H locs lsA φ hHR hB hL hLR hst hret
    obtain ⟨q, hq⟩ := List.getElem?_of_mem (mm_as_mem (φ := φ) (mm_ld_some hx rfl) rfl)
    exact lv_iinc (k := q) hF.1 hF.2.1 hd hLR.has hq rfl (by have h1 := mm_so_len hso; have h2 := hLR.2.1; omega) rfl (fun ls' h' => hN hF hc hs H locs ls' φ hHR hB hL (mm_LR.set1 (v := .int (x + Int32.ofInt k)) hLR hso trivial h') hst hret)
  | iadd =>
    obtain ⟨x, y, t, rfl, hk⟩ := mm_i2_some h
    have hd := mm_dcs hok
    refine mm_one ih hk (Nat.le_refl _) (Nat.le_refl _) ?_
    intro p l e R s m args below meth c Q _ _ hN hF hc hs H locs lsA φ hHR hB hL hLR hst hret
    exact lv_iadd hF.1 hF.2.1 hd (hN hF hc hs H locs lsA φ hHR hB hL hLR (mm_cc trivial (mm_t1 (mm_t1 hst))) hret)
  | isub =>
    obtain ⟨x, y, t, rfl, hk⟩ := mm_i2_some h
    have hd := mm_dcs hok
    refine mm_one ih hk (Nat.le_refl _) (Nat.le_refl _) ?_
    intro p l e R s m args below meth c Q _ _ hN hF hc hs H locs lsA φ hHR hB hL hLR hst hret
    exact lv_isub hF.1 hF.2.1 hd (hN hF hc hs H locs lsA φ hHR hB hL hLR (mm_cc trivial (mm_t1 (mm_t1 hst))) hret)
  | imul =>
    obtain ⟨x, y, t, rfl, hk⟩ := mm_i2_some h
    have hd := mm_dcs hok
    refine mm_one ih hk (Nat.le_refl _) (Nat.le_refl _) ?_
    intro p l e R s m args below meth c Q _ _ hN hF hc hs H locs lsA φ hHR hB hL hLR hst hret
    exact lv_imul hF.1 hF.2.1 hd (hN hF hc hs H locs lsA φ hHR hB hL hLR (mm_cc trivial (mm_t1 (mm_t1 hst))) hret)
  | iand =>
    obtain ⟨x, y, t, rfl, hk⟩ := mm_i2_some h
    have hd := mm_dcs hok
    refine mm_one ih hk (Nat.le_refl _) (Nat.le_refl _) ?_
    intro p l e R s m args below meth c Q _ _ hN hF hc hs H locs lsA φ hHR hB hL hLR hst hret
    exact lv_iand hF.1 hF.2.1 hd (hN hF hc hs H locs lsA φ hHR hB hL hLR (mm_cc trivial (mm_t1 (mm_t1 hst))) hret)
  | i2l =>
    obtain ⟨x, t, rfl, hk⟩ := mm_i1_some h
    have hd := mm_dcs hok
    refine mm_one ih hk (Nat.le_refl _) (Nat.le_refl _) ?_
    intro p l e R s m args below meth c Q _ _ hN hF hc hs H locs lsA φ hHR hB hL hLR hst hret
    exact lv_i2l hF.1 hF.2.1 hd rfl (hN hF hc hs H locs lsA φ hHR hB hL hLR (mm_cc trivial (mm_t1 hst)) hret)
  | ladd =>
    obtain ⟨x, y, t, rfl, hk⟩ := mm_l2_some h
    have hd := mm_dcs hok
    refine mm_one ih hk (Nat.le_refl _) (Nat.le_refl _) ?_
    intro p l e R s m args below meth c Q _ _ hN hF hc hs H locs lsA φ hHR hB hL hLR hst hret
    exact lv_ladd hF.1 hF.2.1 hd (hN hF hc hs H locs lsA φ hHR hB hL hLR (mm_cc trivial (mm_t1 (mm_t1 hst))) hret)
  | lsub =>
    obtain ⟨x, y, t, rfl, hk⟩ := mm_l2_some h
    have hd := mm_dcs hok
    refine mm_one ih hk (Nat.le_refl _) (Nat.le_refl _) ?_
    intro p l e R s m args below meth c Q _ _ hN hF hc hs H locs lsA φ hHR hB hL hLR hst hret
    exact lv_lsub hF.1 hF.2.1 hd (hN hF hc hs H locs lsA φ hHR hB hL hLR (mm_cc trivial (mm_t1 (mm_t1 hst))) hret)
  | lmul =>
    obtain ⟨x, y, t, rfl, hk⟩ := mm_l2_some h
    have hd := mm_dcs hok
    refine mm_one ih hk (Nat.le_refl _) (Nat.le_refl _) ?_
    intro p l e R s m args below meth c Q _ _ hN hF hc hs H locs lsA φ hHR hB hL hLR hst hret
    exact lv_lmul hF.1 hF.2.1 hd (hN hF hc hs H locs lsA φ hHR hB hL hLR (mm_cc trivial (mm_t1 (mm_t1 hst))) hret)
  | ldiv =>
    obtain ⟨x, y, t, rfl, hk⟩ := mm_l2_some h
    obtain ⟨hne, hk⟩ := mm_if_none hk
    have hd := mm_dcs hok
    refine mm_one ih hk (Nat.le_refl _) (Nat.le_refl _) ?_
    intro p l e R s m args below meth c Q _ _ hN hF hc hs H locs lsA φ hHR hB hL hLR hst hret
    exact lv_ldiv hF.1 hF.2.1 hd hne (hN hF hc hs H locs lsA φ hHR hB hL hLR (mm_cc trivial (mm_t1 (mm_t1 hst))) hret)
  | lcmp =>
    obtain ⟨x, y, t, rfl, hk⟩ := mm_l2_some h
    have hd := mm_dcs hok
    refine mm_one ih hk (Nat.le_refl _) (Nat.le_refl _) ?_
    intro p l e R s m args below meth c Q _ _ hN hF hc hs H locs lsA φ hHR hB hL hLR hst hret
    exact W.lcmp hF.1 hF.2.1 hd (hN hF hc hs H locs lsA φ hHR hB hL hLR (mm_cc trivial (mm_t1 (mm_t1 hst))) hret)
  | dup =>
    obtain ⟨v, t, rfl, hk⟩ := mm_v1_some h
    obtain ⟨hv, hk⟩ := mm_if_some hk
    have hd := mm_dcs hok
    refine mm_one ih hk (Nat.le_refl _) (Nat.le_refl _) ?_
    intro p l e R s m args below meth c Q _ _ hN hF hc hs H locs lsA φ hHR hB hL hLR hst hret
    exact lv_dup hF.1 hF.2.1 hd (mm_cat.trans (of_decide_eq_true hv)) (hN hF hc hs H locs lsA φ hHR hB hL hLR (mm_cc (mm_h1 hst) hst) hret)
  | dup2 =>
    obtain ⟨v, w, t, rfl, hk⟩ := mm_v2_some h
    obtain ⟨⟨hv, hw⟩, hk⟩ := mm_if_some hk
    have hd := mm_dcs hok
    refine mm_one ih hk (Nat.le_refl _) (Nat.le_refl _) ?_
    intro p l e R s m args below meth c Q _ _ hN hF hc hs H locs lsA φ hHR hB hL hLR hst hret
    exact lv_dup2_11 hF.1 hF.2.1 hd (mm_cat.trans (of_decide_eq_true hv)) (mm_cat.trans (of_decide_eq_true hw)) (hN hF hc hs H locs lsA φ hHR hB hL hLR (mm_cc (mm_h1 hst) (mm_cc (mm_h1 (mm_t1 hst)) hst)) hret)
  | ifCond q o =>
    have hd := mm_dcs (mm_and hok).1
    have ht := of_decide_eq_true (mm_and hok).2
    cases q with
    | eq =>
      obtain ⟨x, t, rfl, hk⟩ := mm_i1_some h
      by_cases hq : x = 0
      · rw [if_pos hq] at hk
        refine mm_one ih hk (Nat.le_refl _) (Nat.le_refl _) ?_
        intro p l e R s m args below meth c Q _ _ hN hF hc hs H locs lsA φ hHR hB hL hLR hst hret
        have KK := hN hF hc hs H locs lsA φ hHR hB hL hLR (mm_t1 hst) hret
        exact lv_if_eq hF.1 hF.2.1 hd ht (fun _ => KK) (fun z => absurd hq z)
      · rw [if_neg hq] at hk
        refine mm_one ih hk (Nat.le_refl _) (Nat.le_refl _) ?_
        intro p l e R s m args below meth c Q _ _ hN hF hc hs H locs lsA φ hHR hB hL hLR hst hret
        have KK := hN hF hc hs H locs lsA φ hHR hB hL hLR (mm_t1 hst) hret
        exact lv_if_eq hF.1 hF.2.1 hd ht (fun z => absurd z hq) (fun _ => KK)
    | ne =>
      obtain ⟨x, t, rfl, hk⟩ := mm_i1_some h
      by_cases hq : ¬ x = 0
      · rw [if_pos hq] at hk
        refine mm_one ih hk (Nat.le_refl _) (Nat.le_refl _) ?_
        intro p l e R s m args below meth c Q _ _ hN hF hc hs H locs lsA φ hHR hB hL hLR hst hret
        have KK := hN hF hc hs H locs lsA φ hHR hB hL hLR (mm_t1 hst) hret
        exact lv_if_ne hF.1 hF.2.1 hd ht (fun _ => KK) (fun z => absurd z hq)
      · rw [if_neg hq] at hk
        refine mm_one ih hk (Nat.le_refl _) (Nat.le_refl _) ?_
        intro p l e R s m args below meth c Q _ _ hN hF hc hs H locs lsA φ hHR hB hL hLR hst hret
        have KK := hN hF hc hs H locs lsA φ hHR hB hL hLR (mm_t1 hst) hret
        exact lv_if_ne hF.1 hF.2.1 hd ht (fun z => absurd z hq) (fun _ => KK)
    | lt =>
      obtain ⟨x, t, rfl, hk⟩ := mm_i1_some h
      by_cases hq : x < 0
      · rw [if_pos hq] at hk
        refine mm_one ih hk (Nat.le_refl _) (Nat.le_refl _) ?_
        intro p l e R s m args below meth c Q _ _ hN hF hc hs H locs lsA φ hHR hB hL hLR hst hret
        have KK := hN hF hc hs H locs lsA φ hHR hB hL hLR (mm_t1 hst) hret
        exact lv_if_lt hF.1 hF.2.1 hd ht (fun _ => KK) (fun z => absurd hq z)
      · rw [if_neg hq] at hk
        refine mm_one ih hk (Nat.le_refl _) (Nat.le_refl _) ?_
        intro p l e R s m args below meth c Q _ _ hN hF hc hs H locs lsA φ hHR hB hL hLR hst hret
        have KK := hN hF hc hs H locs lsA φ hHR hB hL hLR (mm_t1 hst) hret
        exact lv_if_lt hF.1 hF.2.1 hd ht (fun z => absurd z hq) (fun _ => KK)
    | ge =>
      obtain ⟨x, t, rfl, hk⟩ := mm_i1_some h
      by_cases hq : 0 ≤ x
      · rw [if_pos hq] at hk
        refine mm_one ih hk (Nat.le_refl _) (Nat.le_refl _) ?_
        intro p l e R s m args below meth c Q _ _ hN hF hc hs H locs lsA φ hHR hB hL hLR hst hret
        have KK := hN hF hc hs H locs lsA φ hHR hB hL hLR (mm_t1 hst) hret
        exact lv_if_ge hF.1 hF.2.1 hd ht (fun _ => KK) (fun z => absurd hq z)
      · rw [if_neg hq] at hk
        refine mm_one ih hk (Nat.le_refl _) (Nat.le_refl _) ?_
        intro p l e R s m args below meth c Q _ _ hN hF hc hs H locs lsA φ hHR hB hL hLR hst hret
        have KK := hN hF hc hs H locs lsA φ hHR hB hL hLR (mm_t1 hst) hret
        exact lv_if_ge hF.1 hF.2.1 hd ht (fun z => absurd z hq) (fun _ => KK)
    | gt =>
      obtain ⟨x, t, rfl, hk⟩ := mm_i1_some h
      by_cases hq : 0 < x
      · rw [if_pos hq] at hk
        refine mm_one ih hk (Nat.le_refl _) (Nat.le_refl _) ?_
        intro p l e R s m args below meth c Q _ _ hN hF hc hs H locs lsA φ hHR hB hL hLR hst hret
        have KK := hN hF hc hs H locs lsA φ hHR hB hL hLR (mm_t1 hst) hret
        exact lv_if_gt hF.1 hF.2.1 hd ht (fun _ => KK) (fun z => absurd hq z)
      · rw [if_neg hq] at hk
        refine mm_one ih hk (Nat.le_refl _) (Nat.le_refl _) ?_
        intro p l e R s m args below meth c Q _ _ hN hF hc hs H locs lsA φ hHR hB hL hLR hst hret
        have KK := hN hF hc hs H locs lsA φ hHR hB hL hLR (mm_t1 hst) hret
        exact lv_if_gt hF.1 hF.2.1 hd ht (fun z => absurd z hq) (fun _ => KK)
    | le =>
      obtain ⟨x, t, rfl, hk⟩ := mm_i1_some h
      by_cases hq : x ≤ 0
      · rw [if_pos hq] at hk
        refine mm_one ih hk (Nat.le_refl _) (Nat.le_refl _) ?_
        intro p l e R s m args below meth c Q _ _ hN hF hc hs H locs lsA φ hHR hB hL hLR hst hret
        have KK := hN hF hc hs H locs lsA φ hHR hB hL hLR (mm_t1 hst) hret
        exact lv_if_le hF.1 hF.2.1 hd ht (fun _ => KK) (fun z => absurd hq z)
      · rw [if_neg hq] at hk
        refine mm_one ih hk (Nat.le_refl _) (Nat.le_refl _) ?_
        intro p l e R s m args below meth c Q _ _ hN hF hc hs H locs lsA φ hHR hB hL hLR hst hret
        have KK := hN hF hc hs H locs lsA φ hHR hB hL hLR (mm_t1 hst) hret
        exact lv_if_le hF.1 hF.2.1 hd ht (fun z => absurd z hq) (fun _ => KK)
  | if_icmp q o =>
    have hd := mm_dcs (mm_and hok).1
    have ht := of_decide_eq_true (mm_and hok).2
    cases q with
    | eq =>
      obtain ⟨x, y, t, rfl, hk⟩ := mm_i2_some h
      by_cases hq : x = y
      · rw [if_pos hq] at hk
        refine mm_one ih hk (Nat.le_refl _) (Nat.le_refl _) ?_
        intro p l e R s m args below meth c Q _ _ hN hF hc hs H locs lsA φ hHR hB hL hLR hst hret
        have KK := hN hF hc hs H locs lsA φ hHR hB hL hLR (mm_t1 (mm_t1 hst)) hret
        exact lv_icmp_eq hF.1 hF.2.1 hd ht (fun _ => KK) (fun z => absurd hq z)
      · rw [if_neg hq] at hk
        refine mm_one ih hk (Nat.le_refl _) (Nat.le_refl _) ?_
        intro p l e R s m args below meth c Q _ _ hN hF hc hs H locs lsA φ hHR hB hL hLR hst hret
        have KK := hN hF hc hs H locs lsA φ hHR hB hL hLR (mm_t1 (mm_t1 hst)) hret
        exact lv_icmp_eq hF.1 hF.2.1 hd ht (fun z => absurd z hq) (fun _ => KK)
    | ne =>
      obtain ⟨x, y, t, rfl, hk⟩ := mm_i2_some h
      by_cases hq : ¬ x = y
      · rw [if_pos hq] at hk
        refine mm_one ih hk (Nat.le_refl _) (Nat.le_refl _) ?_
        intro p l e R s m args below meth c Q _ _ hN hF hc hs H locs lsA φ hHR hB hL hLR hst hret
        have KK := hN hF hc hs H locs lsA φ hHR hB hL hLR (mm_t1 (mm_t1 hst)) hret
        exact lv_icmp_ne hF.1 hF.2.1 hd ht (fun _ => KK) (fun z => absurd z hq)
      · rw [if_neg hq] at hk
        refine mm_one ih hk (Nat.le_refl _) (Nat.le_refl _) ?_
        intro p l e R s m args below meth c Q _ _ hN hF hc hs H locs lsA φ hHR hB hL hLR hst hret
        have KK := hN hF hc hs H locs lsA φ hHR hB hL hLR (mm_t1 (mm_t1 hst)) hret
        exact lv_icmp_ne hF.1 hF.2.1 hd ht (fun z => absurd z hq) (fun _ => KK)
    | lt =>
      obtain ⟨x, y, t, rfl, hk⟩ := mm_i2_some h
      by_cases hq : x < y
      · rw [if_pos hq] at hk
        refine mm_one ih hk (Nat.le_refl _) (Nat.le_refl _) ?_
        intro p l e R s m args below meth c Q _ _ hN hF hc hs H locs lsA φ hHR hB hL hLR hst hret
        have KK := hN hF hc hs H locs lsA φ hHR hB hL hLR (mm_t1 (mm_t1 hst)) hret
        exact lv_icmp_lt hF.1 hF.2.1 hd ht (fun _ => KK) (fun z => absurd hq z)
      · rw [if_neg hq] at hk
        refine mm_one ih hk (Nat.le_refl _) (Nat.le_refl _) ?_
        intro p l e R s m args below meth c Q _ _ hN hF hc hs H locs lsA φ hHR hB hL hLR hst hret
        have KK := hN hF hc hs H locs lsA φ hHR hB hL hLR (mm_t1 (mm_t1 hst)) hret
        exact lv_icmp_lt hF.1 hF.2.1 hd ht (fun z => absurd z hq) (fun _ => KK)
    | ge =>
      obtain ⟨x, y, t, rfl, hk⟩ := mm_i2_some h
      by_cases hq : y ≤ x
      · rw [if_pos hq] at hk
        refine mm_one ih hk (Nat.le_refl _) (Nat.le_refl _) ?_
        intro p l e R s m args below meth c Q _ _ hN hF hc hs H locs lsA φ hHR hB hL hLR hst hret
        have KK := hN hF hc hs H locs lsA φ hHR hB hL hLR (mm_t1 (mm_t1 hst)) hret
        exact lv_icmp_ge hF.1 hF.2.1 hd ht (fun _ => KK) (fun z => absurd hq z)
      · rw [if_neg hq] at hk
        refine mm_one ih hk (Nat.le_refl _) (Nat.le_refl _) ?_
        intro p l e R s m args below meth c Q _ _ hN hF hc hs H locs lsA φ hHR hB hL hLR hst hret
        have KK := hN hF hc hs H locs lsA φ hHR hB hL hLR (mm_t1 (mm_t1 hst)) hret
        exact lv_icmp_ge hF.1 hF.2.1 hd ht (fun z => absurd z hq) (fun _ => KK)
    | gt =>
      obtain ⟨x, y, t, rfl, hk⟩ := mm_i2_some h
      by_cases hq : y < x
      · rw [if_pos hq] at hk
        refine mm_one ih hk (Nat.le_refl _) (Nat.le_refl _) ?_
        intro p l e R s m args below meth c Q _ _ hN hF hc hs H locs lsA φ hHR hB hL hLR hst hret
        have KK := hN hF hc hs H locs lsA φ hHR hB hL hLR (mm_t1 (mm_t1 hst)) hret
        exact lv_icmp_gt hF.1 hF.2.1 hd ht (fun _ => KK) (fun z => absurd hq z)
      · rw [if_neg hq] at hk
        refine mm_one ih hk (Nat.le_refl _) (Nat.le_refl _) ?_
        intro p l e R s m args below meth c Q _ _ hN hF hc hs H locs lsA φ hHR hB hL hLR hst hret
        have KK := hN hF hc hs H locs lsA φ hHR hB hL hLR (mm_t1 (mm_t1 hst)) hret
        exact lv_icmp_gt hF.1 hF.2.1 hd ht (fun z => absurd z hq) (fun _ => KK)
    | le =>
      obtain ⟨x, y, t, rfl, hk⟩ := mm_i2_some h
      by_cases hq : x ≤ y
      · rw [if_pos hq] at hk
        refine mm_one ih hk (Nat.le_refl _) (Nat.le_refl _) ?_
        intro p l e R s m args below meth c Q _ _ hN hF hc hs H locs lsA φ hHR hB hL hLR hst hret
        have KK := hN hF hc hs H locs lsA φ hHR hB hL hLR (mm_t1 (mm_t1 hst)) hret
        exact lv_icmp_le hF.1 hF.2.1 hd ht (fun _ => KK) (fun z => absurd hq z)
      · rw [if_neg hq] at hk
        refine mm_one ih hk (Nat.le_refl _) (Nat.le_refl _) ?_
        intro p l e R s m args below meth c Q _ _ hN hF hc hs H locs lsA φ hHR hB hL hLR hst hret
        have KK := hN hF hc hs H locs lsA φ hHR hB hL hLR (mm_t1 (mm_t1 hst)) hret
        exact lv_icmp_le hF.1 hF.2.1 hd ht (fun z => absurd z hq) (fun _ => KK)
  | goto o =>
    have hk := h
    have ht := of_decide_eq_true (mm_and hok).2
    have hd := mm_dcs (mm_and hok).1
    refine mm_one ih hk (Nat.le_refl _) (Nat.le_refl _) ?_
    intro p l e R s m args below meth c Q _ _ hN hF hc hs H locs lsA φ hHR hB hL hLR hst hret
    exact lv_goto hF.1 hF.2.1 hd ht (hN hF hc hs H locs lsA φ hHR hB hL hLR hst hret)
  | tableswitch df lo hi offs =>
    have hd := mm_dcs hok
    obtain ⟨x, t, rfl, hk⟩ := mm_i1_some h
    obtain ⟨off, tgt, ho, ht, hk⟩ := mm_go_some hk
    refine mm_one ih hk (Nat.le_refl _) (Nat.le_refl _) ?_
    intro p l e R s m args below meth c Q _ _ hN hF hc hs H locs lsA φ hHR hB hL hLR hst hret
    have KK := hN hF hc hs H locs lsA φ hHR hB hL hLR (mm_t1 hst) hret
    by_cases hq : x.toInt < lo ∨ hi < x.toInt
    · rw [if_pos hq] at ho
      cases ho
      exact lv_tableOut hF.1 hF.2.1 hd hq ht KK
    · rw [if_neg hq] at ho
      exact lv_tableIn hF.1 hF.2.1 hd (fun z => hq (Or.inl z)) (fun z => hq (Or.inr z)) ho ht KK
  | getfield i =>
    obtain ⟨x, t, rfl, hk⟩ := mm_r1_some h
    obtain ⟨hT, hk⟩ := mm_if_some hk
    have hd := mm_dcs (mm_and hok).1
    have hf := (mm_and hok).2
    refine mm_one ih hk (Nat.le_refl _) (Nat.le_refl _) ?_
    intro p l e R s m args below meth c Q _ _ hN hF hc hs H locs lsA φ hHR hB hL hLR hst hret
    have hb : b < mm_sl S.1 a := of_decide_eq_true (mm_and (mm_and hf).2).1
    exact mm_Wget hG hF hHR hd hf hT (hN hF hc hs H locs lsA φ hHR hB hL hLR (mm_cc ((hHR.1 _ _ _ hT).2.2.2 b hb) (mm_t1 hst)) hret)
  | putfield i =>
    obtain ⟨v, x, t, rfl, hk⟩ := mm_vr_some h
    obtain ⟨⟨hT, hfit⟩, hk⟩ := mm_if_some hk
    have hd := mm_dcs (mm_and hok).1
    have hf := (mm_and (mm_and hok).2).1
    have hfin : ((mm_ck S a).2.1 b).2.2.2 = false ∨ (((mm_ck S a).2.1 b).2.2.2 = true ∧ (mm_mn S μ).name = "<init>" ∧ ((mm_ck S a).2.1 b).1 = (mm_mn S μ).cls) := by
      have h2 := (mm_and (mm_and hok).2).2
      simp only [Bool.or_eq_true, Bool.and_eq_true, decide_eq_true_eq] at h2
      exact h2
    refine mm_one ih hk (Nat.le_refl _) (Nat.le_refl _) ?_
    intro p l e R s m args below meth c Q _ _ hN hF hc hs H locs lsA φ hHR hB hL hLR hst hret
    have ha : a < mm_nc S := of_decide_eq_true (mm_and hf).1
    refine mm_Wput hG hF hHR hd hf hfin hT hfit (mm_h1 hst) (fun H1 k hHR1 hz => ?_)
    refine hN hF hc hs H1 _ lsA φ hHR1 (by rw [hz]; exact hB) (fun q hq => ?_) hLR (mm_t1 (mm_t1 hst)) hret
    rcases List.mem_append.mp hq with h1 | h1
    · exact hL q h1
    · rw [List.mem_singleton.mp h1]
      exact (hHR.1 _ _ _ hT).2.2.1 (by have := hG.2.2.1.1; omega)
  | iaload =>
    obtain ⟨j, x, t, rfl, hk⟩ := mm_ir_some h
    obtain ⟨hi, hk⟩ := mm_if_some hk
    have hd := mm_dcs hok
    refine mm_one ih hk (Nat.le_refl _) (Nat.le_refl _) ?_
    intro p l e R s m args below meth c Q _ _ hN hF hc hs H locs lsA φ hHR hB hL hLR hst hret
    obtain ⟨kd, len, hT, -, -, -, hl⟩ := mm_in_some hi
    exact mm_Wiald hF hHR hd hi (hN hF hc hs H locs lsA φ hHR hB hL hLR (mm_cc ((hHR.1 _ _ _ hT).2.2.2 _ hl) (mm_t1 (mm_t1 hst))) hret)
  | aaload =>
    obtain ⟨j, x, t, rfl, hk⟩ := mm_ir_some h
    obtain ⟨hi, hk⟩ := mm_if_some hk
    have hd := mm_dcs hok
    refine mm_one ih hk (Nat.le_refl _) (Nat.le_refl _) ?_
    intro p l e R s m args below meth c Q _ _ hN hF hc hs H locs lsA φ hHR hB hL hLR hst hret
    obtain ⟨kd, len, hT, -, -, -, hl⟩ := mm_in_some hi
    exact mm_Waald hF hHR hd hi (hN hF hc hs H locs lsA φ hHR hB hL hLR (mm_cc ((hHR.1 _ _ _ hT).2.2.2 _ hl) (mm_t1 (mm_t1 hst))) hret)
  | iastore =>
    obtain ⟨v, j, x, t, rfl, hk⟩ := mm_iir_some h
    obtain ⟨hi, hk⟩ := mm_if_some hk
    have hd := mm_dcs hok
    refine mm_one ih hk (Nat.le_refl _) (Nat.le_refl _) ?_
    intro p l e R s m args below meth c Q _ _ hN hF hc hs H locs lsA φ hHR hB hL hLR hst hret
    obtain ⟨kd, len, hT, h1, h2, -, hl⟩ := mm_in_some hi
    refine mm_Wiast hF hHR hd hi (fun H1 k hHR1 hz => ?_)
    refine hN hF hc hs H1 _ lsA φ hHR1 (by rw [hz]; exact hB) (fun q hq => ?_) hLR (mm_t1 (mm_t1 (mm_t1 hst))) hret
    rcases List.mem_append.mp hq with h1 | h1
    · exact hL q h1
    · rw [List.mem_singleton.mp h1]
      exact (hHR.1 _ _ _ hT).2.2.1 (by omega)
  | aastore =>
    obtain ⟨v, j, x, t, rfl, hk⟩ := mm_rir_some h
    obtain ⟨⟨hi, hv⟩, hk⟩ := mm_if_some hk
    have hd := mm_dcs (mm_and hok).1
    have ha : a = 102 ∨ a = 103 := by simpa using (mm_and (mm_and hok).2).1
    have hb := of_decide_eq_true (mm_and (mm_and (mm_and hok).2).2).1
    have hbn := of_decide_eq_true (mm_and (mm_and (mm_and hok).2).2).2
    refine mm_one ih hk (Nat.le_refl _) (Nat.le_refl _) ?_
    intro p l e R s m args below meth c Q _ _ hN hF hc hs H locs lsA φ hHR hB hL hLR hst hret
    obtain ⟨kd, len, hT, h1, h2, -, hl⟩ := mm_in_some hi
    refine mm_Waast hG hF hHR hd ha hb hbn hi hv (fun H1 k hHR1 hz => ?_)
    refine hN hF hc hs H1 _ lsA φ hHR1 (by rw [hz]; exact hB) (fun q hq => ?_) hLR (mm_t1 (mm_t1 (mm_t1 hst))) hret
    rcases List.mem_append.mp hq with h1 | h1
    · exact hL q h1
    · rw [List.mem_singleton.mp h1]
      exact (hHR.1 _ _ _ hT).2.2.1 (by omega)
  | arraylength =>
    obtain ⟨x, t, rfl, hk⟩ := mm_r1_some h
    obtain ⟨kd, len, hT, h1, h2, hk⟩ := mm_ln_some hk
    have hd := mm_dcs hok
    refine mm_one ih hk (Nat.le_refl _) (Nat.le_refl _) ?_
    intro p l e R s m args below meth c Q _ _ hN hF hc hs H locs lsA φ hHR hB hL hLR hst hret
    exact mm_Walen hF hHR hd hT h1 h2 (hN hF hc hs H locs lsA φ hHR hB hL hLR (mm_cc trivial (mm_t1 hst)) hret)
  | new i =>
    obtain ⟨hT, hk⟩ := mm_if_some h
    have hd := mm_dcs (mm_and hok).1
    have ha := of_decide_eq_true (mm_and (mm_and hok).2).1
    have hw := of_decide_eq_true (mm_and (mm_and hok).2).2
    refine mm_one ih hk (Nat.le_succ _) (Nat.le_add_right _ _) ?_
    intro p l e R s m args below meth c Q hc1 hs1 hN hF hc hs H locs lsA φ hHR hB hL hLR hst hret
    refine mm_Wnew hG hF hHR hB hd ha hw hT (Nat.le_trans hc1 hc) (Nat.le_trans hs1 hs) (fun H1 hHR1 hz => ?_)
    have hE := mm_new_ext (φ := φ) (q := H.size) (kd := a) (len := mm_sl S.1 a) hT
    have KK := hN hF hc hs H1 locs lsA _ hHR1 (by rw [hz]; omega) hL (hLR.ext hE) (mm_cc (mm_new_lv hT) (fun v hv => mm_lv_ext hE (hst v hv))) (hret.ext hE)
    rw [List.map_cons, mm_map_ext hE hst, mm_new_cv] at KK
    exact KK
  | newarray ty =>
    obtain ⟨k, t, rfl, hk⟩ := mm_i1_some h
    obtain ⟨⟨hT, h0, h1⟩, hk⟩ := mm_if_some hk
    have hd := mm_dcs (mm_and hok).1
    have hty := of_decide_eq_true (mm_and hok).2
    subst hty
    refine mm_one ih hk (Nat.le_succ _) (Nat.le_add_right _ _) ?_
    intro p l e R s m args below meth c Q hc1 hs1 hN hF hc hs H locs lsA φ hHR hB hL hLR hst hret
    refine mm_Wnewa hG hF hHR hB hd hT (Int32.not_lt.mpr h0) h1 (Nat.le_trans hc1 hc) (Nat.le_trans hs1 hs) (fun H1 hHR1 hz => ?_)
    have hE := mm_new_ext (φ := φ) (q := H.size) (kd := 100) (len := k.toNatClampNeg) hT
    have KK := hN hF hc hs H1 locs lsA _ hHR1 (by rw [hz]; omega) hL (hLR.ext hE) (mm_cc (mm_new_lv hT) (fun v hv => mm_lv_ext hE (mm_t1 hst v hv))) (hret.ext hE)
    rw [List.map_cons, mm_map_ext hE (mm_t1 hst), mm_new_cv] at KK
    exact KK
  | anewarray i =>
    obtain ⟨k, t, rfl, hk⟩ := mm_i1_some h
    obtain ⟨⟨hT, h0, h1⟩, hk⟩ := mm_if_some hk
    have hd := mm_dcs (mm_and hok).1
    have ha : a = 102 ∨ a = 103 := by simpa using (mm_and (mm_and hok).2).1
    have hw := of_decide_eq_true (mm_and (mm_and hok).2).2
    refine mm_one ih hk (Nat.le_succ _) (Nat.le_add_right _ _) ?_
    intro p l e R s m args below meth c Q hc1 hs1 hN hF hc hs H locs lsA φ hHR hB hL hLR hst hret
    refine mm_Wnewq hG hF hHR hB hd ha hw hT (Int32.not_lt.mpr h0) h1 (Nat.le_trans hc1 hc) (Nat.le_trans hs1 hs) (fun H1 hHR1 hz => ?_)
    have hE := mm_new_ext (φ := φ) (q := H.size) (kd := a) (len := k.toNatClampNeg) hT
    have KK := hN hF hc hs H1 locs lsA _ hHR1 (by rw [hz]; omega) hL (hLR.ext hE) (mm_cc (mm_new_lv hT) (fun v hv => mm_lv_ext hE (mm_t1 hst v hv))) (hret.ext hE)
    rw [List.map_cons, mm_map_ext hE (mm_t1 hst), mm_new_cv] at KK
    exact KK
  | invokestatic i =>
    have hd := mm_dcs (mm_and hok).1
    have hl := (mm_and hok).2
    by_cases ha : a = 999
    · rw [if_pos ha] at h hl
      obtain ⟨hd0, h⟩ := mm_if_none h
      obtain ⟨x, y, t, rfl, hk⟩ := mm_i2_some h
      obtain ⟨hlen, hk⟩ := mm_if_some hk
      have hw := of_decide_eq_true hl
      refine mm_one ih hk (Nat.le_refl _) (Nat.le_refl _) ?_
      intro p l e R s m args below meth c Q hc1 hs1 hN hF hc hs H locs lsA φ hHR hB hL hLR hst hret
      have KK := hN hF hc hs H locs lsA φ hHR hB hL hLR (mm_cc trivial (mm_t1 (mm_t1 hst))) hret
      obtain ⟨hx, hbb, hml, hown, hts, hin, hCK, ⟨hfr, hNK⟩, hlo⟩ := hF
      have hcs := mm_catsum (t.map (mm_cv φ))
      rw [List.length_map] at hcs
      exact va_mmax hx hbb (hml.trans hLR.1.symm) hown (hts _ (List.mem_of_getElem? hw)) (hts _ hG.2.2.2.2.2.2.1) (hts _ hG.2.2.2.2.2.2.2.1) (hts _ hG.2.2.2.2.2.2.2.2) (by omega) (by omega) (Nat.le_trans hc1 hc) (Nat.le_trans hs1 hs) hd KK
    · rw [if_neg ha] at h hl
      exact mm_call0 hG ih hd hl h
  | invokevirtual i =>
    obtain ⟨hrv, hk⟩ := mm_if_some h
    exact mm_call1 hG ih (mm_dcs (mm_and hok).1) (mm_and hok).2 hrv hk
  | invokespecial i =>
    have hd := mm_dcs (mm_and hok).1
    have hl := (mm_and hok).2
    by_cases ha : a = 998
    · rw [if_pos ha] at h hl
      obtain ⟨hd0, h⟩ := mm_if_none h
      obtain ⟨x, t, rfl, hk⟩ := mm_r1_some h
      obtain ⟨hlen, hk⟩ := mm_if_some hk
      have hw := of_decide_eq_true hl
      refine mm_one ih hk (Nat.le_refl _) (Nat.le_refl _) ?_
      intro p l e R s m args below meth c Q hc1 hs1 hN hF hc hs H locs lsA φ hHR hB hL hLR hst hret
      have KK := hN hF hc hs H locs lsA φ hHR hB hL hLR (mm_t1 hst) hret
      obtain ⟨hx, hbb, hml, hown, hts, hin, hCK, ⟨hfr, hNK⟩, hlo⟩ := hF
      have hcs := mm_catsum (t.map (mm_cv φ))
      rw [List.length_map] at hcs
      exact W.objInit hx hbb hown (hts _ (List.mem_of_getElem? hw)) (hts _ hG.2.2.2.2.2.1.1) (hts _ hG.2.2.2.2.2.1.2) rfl (hLR.1.trans hml.symm) rfl hd (by omega) (by show 2 * 0 + _ + 12 ≤ _; omega) KK
    · rw [if_neg ha] at h hl
      obtain ⟨hrf, hk⟩ := mm_if_some h
      by_cases h3 : (mm_km S a).1 = 3
      · rw [if_pos h3] at hl
        exact mm_call3 hG ih hd hl hrf hk
      · rw [if_neg h3] at hl
        exact mm_call2 hG ih hd hl hrf hk
  | ireturn =>
    obtain ⟨x, t, rfl, hk⟩ := mm_i1_some h
    obtain ⟨⟨ht, hb⟩, hk2⟩ := mm_if_some hk
    subst ht
    cases hk2
    have hd := mm_dcs hok
    refine ⟨⟨⟨Nat.le_refl _, Nat.le_refl _⟩, Or.inr ⟨x, rfl⟩⟩, ?_⟩
    intro p l e R s m args below meth c Q hF hc hs H locs lsA φ hHR hB hL hLR hst hret
    exact (hret φ H locs pc lsA hHR hB hL mm_ext.rf).1 x rfl hb hd
  | return_ =>
    obtain ⟨⟨rfl, hb⟩, hk⟩ := mm_if_some h
    cases hk
    have hd := mm_dcs hok
    refine ⟨⟨⟨Nat.le_refl _, Nat.le_refl _⟩, Or.inl rfl⟩, ?_⟩
    intro p l e R s m args below meth c Q hF hc hs H locs lsA φ hHR hB hL hLR hst hret
    exact (hret φ H locs pc lsA hHR hB hL mm_ext.rf).2 rfl hb hd
  | _ => cases h
theorem mm_all {S : mm_S} {Y : mm_Y} (hG : mm_Good S) : ∀ n, mm_IH S Y n
  | 0 => fun _ _ _ _ _ _ _ h => by cases h
  | n + 1 => mm_step hG (mm_all hG n)
