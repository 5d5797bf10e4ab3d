/-! the machine of our own tells what the Java machine does: by the number of steps -/
theorem mm_call0 {S : mm_S} {Y : mm_Y} {n d μ pc a b w i : Nat} {ls st : List Value} {g : mm_M} {r : mm_R} (hG : mm_Good S) (ih : mm_IH S Y n) (hd : decode (mm_mb S μ) pc = .ok (.invokestatic i, 3)) (hm : mm_ml S μ a b w i 0 = true) (h : mm_cl S.1 (mm_run S.1 n) d μ pc a b ls st g = some r) : mm_Con S Y d μ pc ls st g r := by
  unfold mm_ml at hm
  simp only [Bool.and_eq_true, decide_eq_true_eq] at hm
  obtain ⟨ha, hkm, hw⟩ := hm
  cases d with
  | zero => cases h
  | succ d =>
  unfold mm_cl at h
  obtain ⟨⟨h1, h2, h3⟩, h⟩ := mm_if_some h
  split at h
  · rename_i q hq
    have hcq := ih _ _ _ _ _ _ _ hq
    obtain ⟨⟨⟨c1, c2⟩, hres⟩, -⟩ := hcq
    have hck := ih _ _ _ _ _ _ _ h
    obtain ⟨⟨⟨k1, k2⟩, k3⟩, -⟩ := hck
    have k1' : g.2.2.1 + q.2.2.2.1 ≤ r.2.2.2.1 := k1
    have k2' : g.2.2.2 + q.2.2.2.2 ≤ r.2.2.2.2 := k2
    refine ⟨⟨⟨by omega, by omega⟩, k3⟩, ?_⟩
    intro p l e R s m args below meth c Q hF hc hs H locs lsA φ hHR hB hL hLR hst hret
    obtain ⟨⟨hpl, hcode, hini, hy1, hy2⟩, ⟨hmx, hnm⟩, hr, hkind⟩ := hG.2.2.2.1.1 a ha
    rw [hkm] at hnm hkind
    have hlen : (st.take b).reverse.length = b := by rw [List.length_reverse, List.length_take]; omega
    have hall : ∀ w ∈ (st.take b).reverse, mm_ar w = true := fun w hw => List.all_eq_true.mp h3 w (List.mem_reverse.mp hw)
    have hlv : ∀ w ∈ (st.take b).reverse, mm_lv g.1 w := fun w hw => hst w (List.mem_of_mem_take (List.mem_reverse.mp hw))
    have hM := mm_met (Y := Y) (n := n) (d := d) (T := g.1) (V := g.2.1) (r := q) (vs := (st.take b).reverse) φ hG ih ha (by rw [hlen]; exact hq) hall (by rw [hlen]; exact hnm) hlv l
    obtain ⟨hx, hbb, hml, hown, hts, hin, hCK, ⟨hfr, hNK⟩, hlo⟩ := id hF
    rcases hkind with ⟨-, hpar, hstat⟩ | ⟨z, -⟩ | ⟨z, -⟩
    · refine mm_after (a := (((st.take b).reverse).map (mm_cv φ)).toArray) ih hres h hF hc hs hL hLR hst hret ?_
      refine va_runS (cc := mm_mb S μ) (Ts := mm_AL S) (own := (mm_mn S μ).cls) (n := b) (As := ((st.take b).reverse).map (mm_cv φ)) ⟨hx, hbb, hml, hown, hts⟩ hM
        ⟨callB_of b hts (mm_goodin hG ha) rfl rfl rfl (hts _ hini) (hts _ (List.mem_of_getElem? hw)) ⟨hy1, hy2, hpar⟩ ⟨hfr, by show 8 + (mm_mx S.1 a + 11) + 27 * d ≤ R.locals; omega⟩, hts _ hstat⟩
        ⟨mm_blind hG.2.2.2.1.2, fun U hU hW => ⟨rfl, by rw [hU]; exact hHR.moved hW.alike, by rw [hU]; exact hB, hCK.moved hW.alike, hNK.warm hG.2.2.2.1.2 hW⟩⟩ rfl (by rw [List.length_map]; exact hlen) hLR.1 ?_ ?_ hd ⟨Nat.le_trans k1' hc, Nat.le_trans k2' hs⟩
      · show st.map (mm_cv φ) = _
        rw [← List.map_reverse, List.reverse_reverse, ← List.map_append, List.take_append_drop]
      · show 2 * 0 + _ ≤ 8
        have := mm_catsum ((st.drop b).map (mm_cv φ))
        rw [List.length_map] at this
        omega
    · cases z
    · rcases z with z | z <;> cases z
  · cases h
theorem mm_call1 {S : mm_S} {Y : mm_Y} {n d μ pc a b w i : Nat} {ls st : List Value} {g : mm_M} {r : mm_R} (hG : mm_Good S) (ih : mm_IH S Y n) (hd : decode (mm_mb S μ) pc = .ok (.invokevirtual i, 3)) (hm : mm_ml S μ a b w i 1 = true) (hrv : mm_rv S.1 a b st g.1 = true) (h : mm_cl S.1 (mm_run S.1 n) d μ pc a b ls st g = some r) : mm_Con S Y d μ pc ls st g r := by
  unfold mm_ml at hm
  simp only [Bool.and_eq_true, decide_eq_true_eq] at hm
  obtain ⟨ha, hkm, hw⟩ := hm
  cases d with
  | zero => cases h
  | succ d =>
  unfold mm_cl at h
  obtain ⟨⟨h1, h2, h3⟩, h⟩ := mm_if_some h
  split at h
  · rename_i q hq
    have hcq := ih _ _ _ _ _ _ _ hq
    obtain ⟨⟨⟨c1, c2⟩, hres⟩, -⟩ := hcq
    have hck := ih _ _ _ _ _ _ _ h
    obtain ⟨⟨⟨k1, k2⟩, k3⟩, -⟩ := hck
    have k1' : g.2.2.1 + q.2.2.2.1 ≤ r.2.2.2.1 := k1
    have k2' : g.2.2.2 + q.2.2.2.2 ≤ r.2.2.2.2 := k2
    refine ⟨⟨⟨by omega, by omega⟩, k3⟩, ?_⟩
    intro p l e R s m args below meth c Q hF hc hs H locs lsA φ hHR hB hL hLR hst hret
    obtain ⟨⟨hpl, hcode, hini, hy1, hy2⟩, ⟨hmx, hnm⟩, hr, hkind⟩ := hG.2.2.2.1.1 a ha
    rw [hkm] at hnm hkind
    have hlen : (st.take b).reverse.length = b := by rw [List.length_reverse, List.length_take]; omega
    have hall : ∀ w ∈ (st.take b).reverse, mm_ar w = true := fun w hw => List.all_eq_true.mp h3 w (List.mem_reverse.mp hw)
    have hlv : ∀ w ∈ (st.take b).reverse, mm_lv g.1 w := fun w hw => hst w (List.mem_of_mem_take (List.mem_reverse.mp hw))
    have hM := mm_met (Y := Y) (n := n) (d := d) (T := g.1) (V := g.2.1) (r := q) (vs := (st.take b).reverse) φ hG ih ha (by rw [hlen]; exact hq) hall (by rw [hlen]; exact hnm) hlv l
    obtain ⟨hx, hbb, hml, hown, hts, hin, hCK, ⟨hfr, hNK⟩, hlo⟩ := id hF
    rcases hkind with ⟨z, -⟩ | ⟨-, hpar, hinst, hsel, hrc, hcls⟩ | ⟨z, -⟩
    · cases z
    · unfold mm_rv at hrv
      split at hrv
      · rename_i x hx2
        have hTx := of_decide_eq_true hrv
        have hb1 : 1 ≤ b := by
          cases hp : parseMethodDescriptor (mm_mn S a).desc with
          | none => rw [hp] at hpar; cases hpar
          | some z => rw [hp] at hpar; have h9 : z.parameters.length + 1 = b := Option.some.inj hpar; omega
        obtain ⟨k, rfl⟩ : ∃ k, b = k + 1 := ⟨b - 1, by omega⟩
        rw [Nat.add_sub_cancel] at hx2
        have htk := mm_take_ref hx2
        have hvs : (st.take (k + 1)).reverse = .ref x :: (st.take k).reverse := by rw [htk, List.reverse_append]; rfl
        have hpar' : (parseMethodDescriptor (mm_mn S a).desc).map (fun d => d.parameters.length) = some k := by
          cases hp : parseMethodDescriptor (mm_mn S a).desc with
          | none => rw [hp] at hpar; cases hpar
          | some z => rw [hp] at hpar; have h9 : z.parameters.length + 1 = k + 1 := Option.some.inj hpar; exact congrArg some (show z.parameters.length = k by omega)
        rw [hvs] at hM
        obtain ⟨cellB, q1, q2, q3, -⟩ := mm_OB hG.2.2.1.1 hHR hrc hTx
        refine mm_after (a := (Value.ref (φ x) :: ((st.take k).reverse).map (mm_cv φ)).toArray) ih hres h hF hc hs hL hLR hst hret ?_
        refine va_runV (cc := mm_mb S μ) (Ts := mm_AL S) (own := (mm_mn S μ).cls) (C := (mm_mn S a).cls) (n := k) (b := φ x) (As := ((st.take k).reverse).map (mm_cv φ)) ⟨hx, hbb, hml, hown, hts⟩ hM
          ⟨callB_of k hts (mm_goodin hG ha) rfl rfl rfl (hts _ hini) (hts _ (List.mem_of_getElem? hw)) ⟨hy1, hy2, hpar'⟩ ⟨hfr, by show 8 + (mm_mx S.1 a + 11) + 27 * d ≤ R.locals; omega⟩, hts _ hinst, hts _ hsel⟩
          ⟨mm_blind hG.2.2.2.1.2, ⟨cellB, q1, by rw [q3]; rfl, by rw [q2, ← hcls]; exact (hCK.1 _ hrc).2.1⟩, fun U hU hW => ⟨rfl, by rw [hU]; exact hHR.moved hW.alike, by rw [hU]; exact hB, hCK.moved hW.alike, hNK.warm hG.2.2.2.1.2 hW⟩⟩ rfl (by rw [List.length_map, List.length_reverse, List.length_take]; omega) hLR.1 ?_ ?_ hd ⟨Nat.le_trans k1' hc, Nat.le_trans k2' hs⟩
        · show st.map (mm_cv φ) = _
          rw [← List.map_reverse, List.reverse_reverse]
          conv => lhs; rw [← List.take_append_drop (k + 1) st, htk, List.map_append, List.map_append, List.append_assoc]
          rfl
        · show 2 * 0 + _ ≤ 8
          have := mm_catsum ((st.drop (k + 1)).map (mm_cv φ))
          rw [List.length_map] at this
          omega
      · cases hrv
    · rcases z with z | z <;> cases z
  · cases h
theorem mm_call2 {S : mm_S} {Y : mm_Y} {n d μ pc a b w i : Nat} {ls st : List Value} {g : mm_M} {r : mm_R} (hG : mm_Good S) (ih : mm_IH S Y n) (hd : decode (mm_mb S μ) pc = .ok (.invokespecial i, 3)) (hm : mm_ml S μ a b w i 2 = true) (hrf : mm_rf b st = true) (h : mm_cl S.1 (mm_run S.1 n) d μ pc a b ls st g = some r) : mm_Con S Y d μ pc ls st g r := by
  unfold mm_ml at hm
  simp only [Bool.and_eq_true, decide_eq_true_eq] at hm
  obtain ⟨ha, hkm, hw⟩ := hm
  cases d with
  | zero => cases h
  | succ d =>
  unfold mm_cl at h
  obtain ⟨⟨h1, h2, h3⟩, h⟩ := mm_if_some h
  split at h
  · rename_i q hq
    have hcq := ih _ _ _ _ _ _ _ hq
    obtain ⟨⟨⟨c1, c2⟩, hres⟩, -⟩ := hcq
    have hck := ih _ _ _ _ _ _ _ h
    obtain ⟨⟨⟨k1, k2⟩, k3⟩, -⟩ := hck
    have k1' : g.2.2.1 + q.2.2.2.1 ≤ r.2.2.2.1 := k1
    have k2' : g.2.2.2 + q.2.2.2.2 ≤ r.2.2.2.2 := k2
    refine ⟨⟨⟨by omega, by omega⟩, k3⟩, ?_⟩
    intro p l e R s m args below meth c Q hF hc hs H locs lsA φ hHR hB hL hLR hst hret
    obtain ⟨⟨hpl, hcode, hini, hy1, hy2⟩, ⟨hmx, hnm⟩, hr, hkind⟩ := hG.2.2.2.1.1 a ha
    rw [hkm] at hnm hkind
    have hlen : (st.take b).reverse.length = b := by rw [List.length_reverse, List.length_take]; omega
    have hall : ∀ w ∈ (st.take b).reverse, mm_ar w = true := fun w hw => List.all_eq_true.mp h3 w (List.mem_reverse.mp hw)
    have hlv : ∀ w ∈ (st.take b).reverse, mm_lv g.1 w := fun w hw => hst w (List.mem_of_mem_take (List.mem_reverse.mp hw))
    have hM := mm_met (Y := Y) (n := n) (d := d) (T := g.1) (V := g.2.1) (r := q) (vs := (st.take b).reverse) φ hG ih ha (by rw [hlen]; exact hq) hall (by rw [hlen]; exact hnm) hlv l
    obtain ⟨hx, hbb, hml, hown, hts, hin, hCK, ⟨hfr, hNK⟩, hlo⟩ := id hF
    rcases hkind with ⟨z, -⟩ | ⟨z, -⟩ | ⟨-, hpar, hinst, hname, hmr⟩
    · cases z
    · cases z
    · unfold mm_rf at hrf
      split at hrf
      · rename_i x hx2
        have hb1 : 1 ≤ b := by
          cases hp : parseMethodDescriptor (mm_mn S a).desc with
          | none => rw [hp] at hpar; cases hpar
          | some z => rw [hp] at hpar; have h9 : z.parameters.length + 1 = b := Option.some.inj hpar; omega
        obtain ⟨k, rfl⟩ : ∃ k, b = k + 1 := ⟨b - 1, by omega⟩
        rw [Nat.add_sub_cancel] at hx2
        have htk := mm_take_ref hx2
        have hvs : (st.take (k + 1)).reverse = .ref x :: (st.take k).reverse := by rw [htk, List.reverse_append]; rfl
        have hpar' : (parseMethodDescriptor (mm_mn S a).desc).map (fun d => d.parameters.length) = some k := by
          cases hp : parseMethodDescriptor (mm_mn S a).desc with
          | none => rw [hp] at hpar; cases hpar
          | some z => rw [hp] at hpar; have h9 : z.parameters.length + 1 = k + 1 := Option.some.inj hpar; exact congrArg some (show z.parameters.length = k by omega)
        rw [hvs] at hM
        have hcode' : mm_ws S a = Cond.code (mm_mn S a) (mm_mb S a) (mm_mx S.1 a) none :: mm_AL S := by show _ :: _ = _; rw [hmr]
        refine mm_after (a := (Value.ref (φ x) :: ((st.take k).reverse).map (mm_cv φ)).toArray) ih hres h hF hc hs hL hLR hst hret ?_
        refine va_runI (cc := mm_mb S μ) (Ts := mm_AL S) (own := (mm_mn S μ).cls) (n := k) (b := φ x) (As := ((st.take k).reverse).map (mm_cv φ)) ⟨hx, hbb, hml, hown, hts⟩ hM
          ⟨callB_of k hts (mm_goodin hG ha) hcode' rfl rfl (hts _ hini) (hts _ (List.mem_of_getElem? hw)) ⟨hy1, hy2, hpar'⟩ ⟨hfr, by show 8 + (mm_mx S.1 a + 11) + 27 * d ≤ R.locals; omega⟩, hname, hts _ hinst⟩
          ⟨mm_blind hG.2.2.2.1.2, fun U hU hW => ⟨rfl, by rw [hU]; exact hHR.moved hW.alike, by rw [hU]; exact hB, hCK.moved hW.alike, hNK.warm hG.2.2.2.1.2 hW⟩⟩ rfl (by rw [List.length_map, List.length_reverse, List.length_take]; omega) hLR.1 ?_ ?_ hd ⟨Nat.le_trans k1' hc, Nat.le_trans k2' hs⟩
        · show st.map (mm_cv φ) = _
          rw [← List.map_reverse, List.reverse_reverse]
          conv => lhs; rw [← List.take_append_drop (k + 1) st, htk, List.map_append, List.map_append, List.append_assoc]
          rfl
        · show 2 * 0 + _ ≤ 8
          have := mm_catsum ((st.drop (k + 1)).map (mm_cv φ))
          rw [List.length_map] at this
          omega
      · cases hrf
  · cases h
theorem mm_call3 {S : mm_S} {Y : mm_Y} {n d μ pc a b w i : Nat} {ls st : List Value} {g : mm_M} {r : mm_R} (hG : mm_Good S) (ih : mm_IH S Y n) (hd : decode (mm_mb S μ) pc = .ok (.invokespecial i, 3)) (hm : mm_mn3 S μ a b w i = true) (hrf : mm_rf b st = true) (h : mm_cl S.1 (mm_run S.1 n) d μ pc a b ls st g = some r) : mm_Con S Y d μ pc ls st g r := by
  unfold mm_mn3 at hm
  simp only [Bool.and_eq_true, decide_eq_true_eq] at hm
  obtain ⟨ha, hkm, hw⟩ := hm
  cases d with
  | zero => cases h
  | succ d =>
  unfold mm_cl at h
  obtain ⟨⟨h1, h2, h3⟩, h⟩ := mm_if_some h
  split at h
  · rename_i q hq
    have hcq := ih _ _ _ _ _ _ _ hq
    obtain ⟨⟨⟨c1, c2⟩, hres⟩, -⟩ := hcq
    have hck := ih _ _ _ _ _ _ _ h
    obtain ⟨⟨⟨k1, k2⟩, k3⟩, -⟩ := hck
    have k1' : g.2.2.1 + q.2.2.2.1 ≤ r.2.2.2.1 := k1
    have k2' : g.2.2.2 + q.2.2.2.2 ≤ r.2.2.2.2 := k2
    refine ⟨⟨⟨by omega, by omega⟩, k3⟩, ?_⟩
    intro p l e R s m args below meth c Q hF hc hs H locs lsA φ hHR hB hL hLR hst hret
    obtain ⟨⟨hpl, hcode, hini, hy1, hy2⟩, ⟨hmx, hnm⟩, hr, hkind⟩ := hG.2.2.2.1.1 a ha
    rw [hkm] at hnm hkind
    have hlen : (st.take b).reverse.length = b := by rw [List.length_reverse, List.length_take]; omega
    have hall : ∀ w ∈ (st.take b).reverse, mm_ar w = true := fun w hw => List.all_eq_true.mp h3 w (List.mem_reverse.mp hw)
    have hlv : ∀ w ∈ (st.take b).reverse, mm_lv g.1 w := fun w hw => hst w (List.mem_of_mem_take (List.mem_reverse.mp hw))
    have hM := mm_met (Y := Y) (n := n) (d := d) (T := g.1) (V := g.2.1) (r := q) (vs := (st.take b).reverse) φ hG ih ha (by rw [hlen]; exact hq) hall (by rw [hlen]; exact hnm) hlv l
    obtain ⟨hx, hbb, hml, hown, hts, hin, hCK, ⟨hfr, hNK⟩, hlo⟩ := id hF
    rcases hkind with ⟨z, -⟩ | ⟨z, -⟩ | ⟨-, hpar, hinst, hname, hmr⟩
    · cases z
    · cases z
    · unfold mm_rf at hrf
      split at hrf
      · rename_i x hx2
        have hb1 : 1 ≤ b := by
          cases hp : parseMethodDescriptor (mm_mn S a).desc with
          | none => rw [hp] at hpar; cases hpar
          | some z => rw [hp] at hpar; have h9 : z.parameters.length + 1 = b := Option.some.inj hpar; omega
        obtain ⟨k, rfl⟩ : ∃ k, b = k + 1 := ⟨b - 1, by omega⟩
        rw [Nat.add_sub_cancel] at hx2
        have htk := mm_take_ref hx2
        have hvs : (st.take (k + 1)).reverse = .ref x :: (st.take k).reverse := by rw [htk, List.reverse_append]; rfl
        have hpar' : (parseMethodDescriptor (mm_mn S a).desc).map (fun d => d.parameters.length) = some k := by
          cases hp : parseMethodDescriptor (mm_mn S a).desc with
          | none => rw [hp] at hpar; cases hpar
          | some z => rw [hp] at hpar; have h9 : z.parameters.length + 1 = k + 1 := Option.some.inj hpar; exact congrArg some (show z.parameters.length = k by omega)
        rw [hvs] at hM
        have hcode' : mm_ws S a = Cond.code (mm_mn S a) (mm_mb S a) (mm_mx S.1 a) none :: mm_AL S := by show _ :: _ = _; rw [hmr]
        refine mm_after (a := (Value.ref (φ x) :: ((st.take k).reverse).map (mm_cv φ)).toArray) ih hres h hF hc hs hL hLR hst hret ?_
        refine va_runIN (host := "StackPolicyKernel") (cc := mm_mb S μ) (Ts := mm_AL S) (own := (mm_mn S μ).cls) (n := k) (b := φ x) (As := ((st.take k).reverse).map (mm_cv φ)) ⟨hx, hbb, hml, hown, hts⟩ hM
          ⟨va_cnB k hts (mm_goodin hG ha) hcode' rfl rfl (hNK _ (List.mem_of_getElem? hw)) (hts _ hini) ⟨hy1, hy2, hpar'⟩ ⟨hfr, by show 8 + (mm_mx S.1 a + 11) + 27 * d ≤ R.locals; omega⟩, hname, hts _ hinst⟩
          ⟨mm_blind hG.2.2.2.1.2, fun U hU hW => ⟨rfl, by rw [hU]; exact hHR.moved hW.alike, by rw [hU]; exact hB, hCK.moved hW.alike, hNK.warm hG.2.2.2.1.2 hW⟩⟩ rfl (by rw [List.length_map, List.length_reverse, List.length_take]; omega) hLR.1 ?_ ?_ hd ⟨Nat.le_trans k1' hc, Nat.le_trans k2' hs⟩
        · show st.map (mm_cv φ) = _
          rw [← List.map_reverse, List.reverse_reverse]
          conv => lhs; rw [← List.take_append_drop (k + 1) st, htk, List.map_append, List.map_append, List.append_assoc]
          rfl
        · show 2 * 0 + _ ≤ 8
          have := mm_catsum ((st.drop (k + 1)).map (mm_cv φ))
          rw [List.length_map] at this
          omega
      · cases hrf
  · cases h
