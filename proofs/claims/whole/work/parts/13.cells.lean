/-! cells that change -/
theorem mm_OB {S : mm_S} {Y : mm_Y} {U : State} {φ : Nat → Nat} {T : mm_T} {V : mm_V} {H : Heap} (hG : mm_nc S ≤ 100) (h : mm_HR Y U φ T V H) {x a len : Nat} (ha : a < mm_nc S) (hT : T x = some (a, len)) : t_OB (φ x) (Y.1.1 a) len (Y.1.2 a) H (fun k => mm_cv φ (V x k)) := by
  have h1 := (h.1 x a len hT).1
  unfold mm_cell at h1
  rw [if_pos (by omega)] at h1
  exact h1
theorem mm_AR {Y : mm_Y} {U : State} {φ : Nat → Nat} {T : mm_T} {V : mm_V} {H : Heap} (h : mm_HR Y U φ T V H) {x a len : Nat} (ha : 100 ≤ a) (ha' : a ≠ 101) (hT : T x = some (a, len)) : H[φ x]? = some (arrV (Y.2.1 a) len (fun j => mm_cv φ (V x j))) := by
  have h1 := (h.1 x a len hT).1
  unfold mm_cell at h1
  rw [if_neg (by omega), if_neg ha'] at h1
  exact h1
theorem mm_SC {Y : mm_Y} {U : State} {φ : Nat → Nat} {T : mm_T} {V : mm_V} {H : Heap} (h : mm_HR Y U φ T V H) {x len : Nat} (hT : T x = some (101, len)) : ∃ scr : Cell, H[φ x]? = some scr ∧ U.isArrayOf scr .int ∧ scr.vm ≠ .unknown ∧ scr.slots.size = len ∧ ∀ j : Nat, j < len → scr.slots[j]? = some (mm_cv φ (V x j)) := by
  have h1 := (h.1 x 101 len hT).1
  unfold mm_cell at h1
  rw [if_neg (by decide), if_pos rfl] at h1
  exact h1
theorem mm_cv_up {φ : Nat → Nat} {V : mm_V} {x k : Nat} {v : Value} (j : Nat) : mm_cv φ (mm_up V x k v x j) = updV (fun j => mm_cv φ (V x j)) k (mm_cv φ v) j := by
  unfold mm_up updV
  by_cases e : j = k
  · rw [if_pos ⟨rfl, e⟩, if_pos e]
  · rw [if_neg (fun q => e q.2), if_neg e]
/-- an array's cell behind a store -/
theorem mm_AR.put {Y : mm_Y} {U : State} {φ : Nat → Nat} {T : mm_T} {V : mm_V} {H H' : Heap} (h : mm_HR Y U φ T V H) {x a len k : Nat} {v : Value} (ha : 100 ≤ a) (ha' : a ≠ 101) (hT : T x = some (a, len)) (hv : mm_lv T v) (e1 : H'[φ x]? = some ((arrV (Y.2.1 a) len (fun j => mm_cv φ (V x j))).setSlot k (mm_cv φ v))) (hsz : H'.size = H.size) (hoff : ∀ q, q ≠ φ x → H'[q]? = H[q]?) : mm_HR Y U φ T (mm_up V x k v) H' := by
  refine h.put hT hv hsz hoff ?_
  unfold mm_cell
  rw [if_neg (by omega), if_neg ha', e1, arrV_store]
  exact congrArg some (mm_arrV_ext fun j _ => (mm_cv_up j).symm)
theorem mm_apart {S : mm_S} {Y : mm_Y} {s : State} {args : Array Value} {a : Nat} (hts : ∀ w ∈ mm_AL S, w.before args s = true) (hc : mm_cok S a) (hK : u_Kn s (mm_ck S a).1 (mm_ck S a).2.1 (mm_sl S.1 a) (Y.1.1 a) (Y.1.2 a)) : ∀ x y, x < mm_sl S.1 a → y < mm_sl S.1 a → x ≠ y → (Y.1.2 a) x ≠ (Y.1.2 a) y := by
  intro x y hx hy hne
  obtain ⟨hS, -⟩ := hK
  obtain ⟨hw, -, -, hty, hnm, -⟩ := hc
  obtain ⟨_, _, _, fa, hia, ea⟩ := hS x hx
  obtain ⟨_, _, _, fb, hib, eb⟩ := hS y hy
  rw [← ea, ← eb]
  refine u_apart (u_lays hts hw hx) (u_lays hts hw hy) hia hib ?_
  rw [(State.fieldFound?_type hia (hty x hx)).1, (State.fieldFound?_type hib (hty y hy)).1]
  exact hnm x hx y hy hne
section MMW
variable {S : mm_S} {Y : mm_Y} {p : Program} {l : Launch} {e : Env} {R : Room} {s : State} {m : MethodId} {args : Array Value} {below : List Frame} {meth : Method} {c : Code} {H : Heap} {locs : List Loc} {cells slots : Nat} {Q : State → Prop} {μ d pc : Nat} {lsA : Array Slot} {rest : List Value} {φ : Nat → Nat} {T : mm_T} {V : mm_V}
theorem mm_Wget (hG : mm_Good S) (hF : mm_Fix S Y p R s m args meth c μ d) (hHR : mm_HR Y s φ T V H) {x a b w i : Nat} (hd : decode (mm_mb S μ) pc = .ok (.getfield i, 3)) (hf : mm_fd S μ a b w i = true) (hT : T x = some (a, mm_sl S.1 a))
    (kk : W p l e R s m args below meth c H locs cells slots Q (F0 m (pc + 3) lsA (mm_cv φ (V x b) :: rest))) : W p l e R s m args below meth c H locs cells slots Q (F0 m pc lsA (.ref (φ x) :: rest)) := by
  unfold mm_fd at hf
  simp only [Bool.and_eq_true, decide_eq_true_eq] at hf
  obtain ⟨ha, hb, hw⟩ := hf
  obtain ⟨hx, hbb, hml, hown, hts, hin, hCK, -, -⟩ := hF
  obtain ⟨hwc, -, -, hty, hnm, -⟩ := hG.2.2.1.2 a ha
  obtain ⟨cell, q1, q2, q3, q4⟩ := mm_OB hG.2.2.1.1 hHR ha hT
  obtain ⟨hS, hfc, kC, hkC, hkind⟩ := hCK.1 a ha
  obtain ⟨cf, kf, fi, f, hi, hsl⟩ := hS b hb
  refine W.getf hx hbb hown (hts _ (List.mem_of_getElem? hw)) hi (u_facts hfc hkC (u_lays hts hwc hb) hi).1 q1 (by rw [q3]; exact fun h => by cases h) (v := mm_cv φ (V x b)) ?_ rfl rfl hd kk
  rw [hsl]
  exact q4 b hb
theorem mm_Wput (hG : mm_Good S) (hF : mm_Fix S Y p R s m args meth c μ d) (hHR : mm_HR Y s φ T V H) {x a b w i : Nat} {v : Value} (hd : decode (mm_mb S μ) pc = .ok (.putfield i, 3)) (hf : mm_fd S μ a b w i = true)
    (hfin : ((mm_ck S a).2.1 b).2.2.2 = false ∨ (((mm_ck S a).2.1 b).2.2.2 = true ∧ (mm_mn S μ).name = "<init>" ∧ ((mm_ck S a).2.1 b).1 = (mm_mn S μ).cls)) (hT : T x = some (a, mm_sl S.1 a)) (hfit : fits (mm_ft S.1 a b) v = true) (hv : mm_lv T v)
    (kk : ∀ (H1 : Heap) (k : Nat), mm_HR Y s φ T (mm_up V x b v) H1 → H1.size = H.size → W p l e R s m args below meth c H1 (locs ++ [⟨φ x, k⟩]) cells slots Q (F0 m (pc + 3) lsA rest)) : W p l e R s m args below meth c H locs cells slots Q (F0 m pc lsA (mm_cv φ v :: .ref (φ x) :: rest)) := by
  unfold mm_fd at hf
  simp only [Bool.and_eq_true, decide_eq_true_eq] at hf
  obtain ⟨ha, hb, hw⟩ := hf
  obtain ⟨hx, hbb, hml, hown, hts, hin, hCK, -, -⟩ := hF
  have hcok := hG.2.2.1.2 a ha
  have hK := hCK.1 a ha
  have hap := mm_apart (Y := Y) hts hcok hK
  obtain ⟨hwc, -, -, hty, hnm, hpt⟩ := hcok
  obtain ⟨cell, q1, q2, q3, q4⟩ := mm_OB hG.2.2.1.1 hHR ha hT
  obtain ⟨hS, hfc, kC, hkC, hkind⟩ := hK
  obtain ⟨cf, kf, fi, f, hi, hsl⟩ := hS b hb
  have hlay := hts _ (hwc _ (u_in_lay hb))
  have hst := (u_facts hfc hkC (u_lays hts hwc hb) hi).1
  have hn : narrow (mm_ft S.1 a b) (mm_cv φ v) = mm_cv φ v := mm_fits_nar (mm_fits_cv hfit) (hpt b hb)
  have key : ∀ H' : Heap, H'[φ x]? = some (cell.setSlot f.slot (mm_cv φ v)) → H'.size = H.size → (∀ q, q ≠ φ x → H'[q]? = H[q]?) → W p l e R s m args below meth c H' (locs ++ [⟨φ x, f.slot⟩]) cells slots Q (F0 m (pc + 3) lsA rest) := by
    intro H' e1 e2 e3
    refine kk H' _ (hHR.put hT hv e2 e3 ?_) e2
    unfold mm_cell
    rw [if_pos (by have := hG.2.2.1.1; omega)]
    rw [hsl] at e1
    exact t_OB.to (V := updV (fun k => mm_cv φ (V x k)) b (mm_cv φ v)) ⟨_, e1, q2, q3, t_set q4 hap hb (mm_cv φ v)⟩ (fun j _ => (mm_cv_up j).symm)
  unfold u_lay at hlay
  rcases hfin with h0 | ⟨h0, h1, h2⟩
  · rw [if_neg (by rw [h0]; decide)] at hlay
    have h6 := u_store hfc hkC hkind hlay hi (hty b hb) hn (mm_fits_cv hfit)
    exact W.putK hx hbb (f := f) ⟨hown, hts _ (List.mem_of_getElem? hw), ⟨_, _, _, hi⟩, hst⟩ (by rw [q2]; exact h6) q1 q3 (by rw [hsl]; exact k2_hasslot (q4 b hb)) rfl rfl hd key
  · rw [if_pos h0] at hlay
    have hcf : m.cls = cf := by
      obtain ⟨_, _, c', _, _, _, -, -, hf', -, -, -, hown2, -⟩ := Cond.laysFinal_spec hlay
      have e1 : c' = cf := by have := hi.symm.trans hf'; simp at this; exact this.1.symm
      rw [h2] at hown2
      rw [← e1]; exact Option.some.inj (hown.symm.trans hown2)
    have h6 := u_fits hfc hkC hkind (Or.inr hlay) hi (hty b hb) hn (mm_fits_cv hfit)
    exact W.putFinK hx hbb hown (hts _ (List.mem_of_getElem? hw)) hi hst hcf (hin.trans h1) (by rw [q2]; exact h6) q1 q3 (by rw [hsl]; exact k2_hasslot (q4 b hb)) rfl rfl hd key
theorem mm_Wnew (hG : mm_Good S) (hF : mm_Fix S Y p R s m args meth c μ d) (hHR : mm_HR Y s φ T V H) (hB : Y.2.2 ≤ H.size) {x a w i : Nat} (hd : decode (mm_mb S μ) pc = .ok (.new i, 3)) (ha : a < mm_nc S) (hw : (mm_AL S)[w]? = some (Jvm.Cond.classLink (mm_mn S μ).cls i (mm_ck S a).1)) (hT : T x = none) (hc : cells + 1 ≤ R.cells) (hs : slots + mm_sl S.1 a ≤ R.slots)
    (kk : ∀ H1 : Heap, mm_HR Y s (mm_fu φ x H.size) (mm_alT T x a (mm_sl S.1 a)) (mm_alV V x fun k => defaultValue (mm_ft S.1 a k)) H1 → H1.size = H.size + 1 → W p l e R s m args below meth c H1 locs (cells + 1) (slots + mm_sl S.1 a) Q (F0 m (pc + 3) lsA (.ref H.size :: rest))) : W p l e R s m args below meth c H locs cells slots Q (F0 m pc lsA rest) := by
  obtain ⟨hx, hbb, hml, hown, hts, hin, hCK, -, -⟩ := hF
  obtain ⟨hwc, hinst, hini, hty, hnm, hpt⟩ := hG.2.2.1.2 a ha
  have hKn := hCK.1 a ha
  refine W.newcK hx hbb hown (hts _ (List.mem_of_getElem? hw)) (hts _ hinst) (hts _ hini) rfl hd hc hs hKn.2.1 rfl fun H1 kC hkC e1 z1 o1 => ?_
  refine kk H1 (hHR.new hT z1 o1 hB (fun k => mm_lv_def T _) ?_) z1
  unfold mm_cell
  rw [if_pos (by have := hG.2.2.1.1; omega), show mm_fu φ x H.size x = H.size by unfold mm_fu; rw [if_pos rfl]]
  refine (u_born (mm_ft S.1 a) hts hwc hKn hkC e1 hty).to fun k _ => ?_
  show _ = mm_cv _ (mm_alV V x (fun k => defaultValue (mm_ft S.1 a k)) x k)
  unfold mm_alV
  rw [if_pos rfl, mm_cv_def]
theorem mm_Wnewa (hG : mm_Good S) (hF : mm_Fix S Y p R s m args meth c μ d) (hHR : mm_HR Y s φ T V H) (hB : Y.2.2 ≤ H.size) {x : Nat} {n : Int32} (hd : decode (mm_mb S μ) pc = .ok (.newarray .int, 2)) (hT : T x = none) (hn : ¬ n < 0) (hN : n.toNatClampNeg ≤ 1000) (hc : cells + 1 ≤ R.cells) (hs : slots + n.toNatClampNeg ≤ R.slots)
    (kk : ∀ H1 : Heap, mm_HR Y s (mm_fu φ x H.size) (mm_alT T x 100 n.toNatClampNeg) (mm_alV V x fun _ => .int 0) H1 → H1.size = H.size + 1 → W p l e R s m args below meth c H1 locs (cells + 1) (slots + n.toNatClampNeg) Q (F0 m (pc + 2) lsA (.ref H.size :: rest))) : W p l e R s m args below meth c H locs cells slots Q (F0 m pc lsA (.int n :: rest)) := by
  obtain ⟨hx, hbb, hml, hown, hts, hin, hCK, -, -⟩ := hF
  refine va_newaK (atype := .int) hx hbb (hts _ hG.2.2.2.2.1) rfl hd rfl hn rfl (Nat.le_trans (Nat.mul_le_mul_right _ hN) (by decide)) hc hs rfl fun H1 cA e1 z1 o1 hAr hNm => ?_
  have hcA : Y.2.1 100 = cA := Option.some.inj ((show s.vm.findClass _ = some (Y.2.1 100) from hCK.2.1.2).symm.trans hNm)
  refine kk H1 (hHR.new hT z1 o1 hB (fun k => trivial) ?_) z1
  unfold mm_cell
  rw [if_neg (by decide), if_neg (by decide), show mm_fu φ x H.size x = H.size by unfold mm_fu; rw [if_pos rfl], e1, hcA]
  refine congrArg some (mm_arrV_ext fun j _ => ?_)
  unfold mm_alV
  rw [if_pos rfl]
  rfl
theorem mm_Wnewq (hG : mm_Good S) (hF : mm_Fix S Y p R s m args meth c μ d) (hHR : mm_HR Y s φ T V H) (hB : Y.2.2 ≤ H.size) {x a w i : Nat} {n : Int32} (hd : decode (mm_mb S μ) pc = .ok (.anewarray i, 3)) (ha : a = 102 ∨ a = 103) (hw : (mm_AL S)[w]? = some (Jvm.Cond.classLink (mm_mn S μ).cls i (mm_ck S (mm_ek S a)).1)) (hT : T x = none) (hn : ¬ n < 0) (hN : n.toNatClampNeg ≤ 1000) (hc : cells + 1 ≤ R.cells) (hs : slots + n.toNatClampNeg ≤ R.slots)
    (kk : ∀ H1 : Heap, mm_HR Y s (mm_fu φ x H.size) (mm_alT T x a n.toNatClampNeg) (mm_alV V x fun _ => .null) H1 → H1.size = H.size + 1 → W p l e R s m args below meth c H1 locs (cells + 1) (slots + n.toNatClampNeg) Q (F0 m (pc + 3) lsA (.ref H.size :: rest))) : W p l e R s m args below meth c H locs cells slots Q (F0 m pc lsA (.int n :: rest)) := by
  obtain ⟨hx, hbb, hml, hown, hts, hin, hCK, -, -⟩ := hF
  obtain ⟨hAr, hRA, hAO⟩ := hCK.2.2 a ha
  refine W.anew hx hbb hown (hts _ (List.mem_of_getElem? hw)) (va_AO.use hAO) rfl hd rfl hn (by omega) hc hs fun cA kA comp f1 f2 f3 f4 => ?_
  have hcA : Y.2.1 a = cA := by
    obtain ⟨_, _, _, _, _, k4⟩ := hRA
    exact Option.some.inj (k4.symm.trans f1)
  refine kk _ (hHR.new hT (by rw [Array.size_push]) (fun q hq => by rw [Array.getElem?_push, if_neg (Nat.ne_of_lt hq)]) hB (fun k => trivial) ?_) (by rw [Array.size_push])
  unfold mm_cell
  rw [if_neg (by omega), if_neg (by omega), show mm_fu φ x H.size x = H.size by unfold mm_fu; rw [if_pos rfl], Array.getElem?_push_size, arrV_new, hcA]
  refine congrArg some (mm_arrV_ext fun j _ => ?_)
  unfold mm_alV
  rw [if_pos rfl]
  rfl
theorem mm_Wiald (hF : mm_Fix S Y p R s m args meth c μ d) (hHR : mm_HR Y s φ T V H) {x : Nat} {j : Int32} (hd : decode (mm_mb S μ) pc = .ok (.iaload, 1)) (hi : mm_in (T x) 100 101 j = true)
    (kk : W p l e R s m args below meth c H locs cells slots Q (F0 m (pc + 1) lsA (mm_cv φ (V x j.toNatClampNeg) :: rest))) : W p l e R s m args below meth c H locs cells slots Q (F0 m pc lsA (.int j :: .ref (φ x) :: rest)) := by
  obtain ⟨hx, hbb, hml, hown, hts, hin, hCK, -, -⟩ := hF
  obtain ⟨kd, len, hT, h1, h2, h3, h4⟩ := mm_in_some hi
  by_cases e1 : kd = 101
  · subst e1
    obtain ⟨scr, q1, q2, q3, q4, q5⟩ := mm_SC hHR hT
    exact W.iald hx hbb q1 q2 q3 (by rw [q4]; exact fun q => q.elim h3 (fun z => by omega)) (q5 _ h4) rfl rfl hd kk
  · have e2 : kd = 100 := by omega
    subst e2
    exact W.iald hx hbb (mm_AR hHR (by decide) (by decide) hT) (hCK.2.1.1 _ _) (fun q => by cases q) (by rw [arrV_size]; exact fun q => q.elim h3 (fun z => by omega)) (arrV_read _ _ h4) rfl rfl hd kk
theorem mm_Waald (hF : mm_Fix S Y p R s m args meth c μ d) (hHR : mm_HR Y s φ T V H) {x : Nat} {j : Int32} (hd : decode (mm_mb S μ) pc = .ok (.aaload, 1)) (hi : mm_in (T x) 102 103 j = true)
    (kk : W p l e R s m args below meth c H locs cells slots Q (F0 m (pc + 1) lsA (mm_cv φ (V x j.toNatClampNeg) :: rest))) : W p l e R s m args below meth c H locs cells slots Q (F0 m pc lsA (.int j :: .ref (φ x) :: rest)) := by
  obtain ⟨hx, hbb, hml, hown, hts, hin, hCK, -, -⟩ := hF
  obtain ⟨kd, len, hT, h1, h2, h3, h4⟩ := mm_in_some hi
  exact W.aald (ty := .object (mm_ck S (mm_ek S kd)).1) hx hbb (mm_AR hHR (by omega) (by omega) hT) ((hCK.2.2 kd (by omega)).1 _ _) rfl (fun q => by cases q) (by rw [arrV_size]; exact fun q => q.elim h3 (fun z => by omega)) (arrV_read _ _ h4) rfl rfl hd kk
theorem mm_Walen (hF : mm_Fix S Y p R s m args meth c μ d) (hHR : mm_HR Y s φ T V H) {x kd len : Nat} (hd : decode (mm_mb S μ) pc = .ok (.arraylength, 1)) (hT : T x = some (kd, len)) (h1 : 100 ≤ kd) (h2 : kd ≤ 103)
    (kk : W p l e R s m args below meth c H locs cells slots Q (F0 m (pc + 1) lsA (.int (Int32.ofNat len) :: rest))) : W p l e R s m args below meth c H locs cells slots Q (F0 m pc lsA (.ref (φ x) :: rest)) := by
  obtain ⟨hx, hbb, hml, hown, hts, hin, hCK, -, -⟩ := hF
  by_cases e1 : kd = 101
  · subst e1
    obtain ⟨scr, q1, q2, q3, q4, q5⟩ := mm_SC hHR hT
    exact W.alen hx hbb q1 q2 (by rw [q4] <;> rfl) rfl rfl hd kk
  · by_cases e2 : kd = 100
    · subst e2
      exact W.alen hx hbb (mm_AR hHR (by decide) (by decide) hT) (hCK.2.1.1 _ _) (by rw [arrV_size] <;> rfl) rfl rfl hd kk
    · exact W.alen hx hbb (mm_AR hHR (by omega) (by omega) hT) ((hCK.2.2 kd (by omega)).1 _ _) (by rw [arrV_size] <;> rfl) rfl rfl hd kk
theorem mm_Wiast (hF : mm_Fix S Y p R s m args meth c μ d) (hHR : mm_HR Y s φ T V H) {x : Nat} {j v : Int32} (hd : decode (mm_mb S μ) pc = .ok (.iastore, 1)) (hi : mm_in (T x) 100 100 j = true)
    (kk : ∀ (H1 : Heap) (k : Nat), mm_HR Y s φ T (mm_up V x j.toNatClampNeg (.int v)) H1 → H1.size = H.size → W p l e R s m args below meth c H1 (locs ++ [⟨φ x, k⟩]) cells slots Q (F0 m (pc + 1) lsA rest)) : W p l e R s m args below meth c H locs cells slots Q (F0 m pc lsA (.int v :: .int j :: .ref (φ x) :: rest)) := by
  obtain ⟨hx, hbb, hml, hown, hts, hin, hCK, -, -⟩ := hF
  obtain ⟨kd, len, hT, h1, h2, h3, h4⟩ := mm_in_some hi
  have e2 : kd = 100 := by omega
  subst e2
  exact W.iast hx hbb (mm_AR hHR (by decide) (by decide) hT) (hCK.2.1.1 _ _) (fun q => by cases q) (by rw [arrV_size]; exact fun q => q.elim h3 (fun z => by omega)) rfl rfl hd fun H1 e1 z1 o1 => kk H1 _ (mm_AR.put (v := .int v) hHR (by decide) (by decide) hT trivial e1 z1 o1) z1
theorem mm_Waast (hG : mm_Good S) (hF : mm_Fix S Y p R s m args meth c μ d) (hHR : mm_HR Y s φ T V H) {x v a b : Nat} {j : Int32} (hd : decode (mm_mb S μ) pc = .ok (.aastore, 1)) (ha : a = 102 ∨ a = 103) (hb : b = mm_ek S a) (hbn : b < mm_nc S) (hi : mm_in (T x) a a j = true) (hv : T v = some (b, mm_sl S.1 b))
    (kk : ∀ (H1 : Heap) (k : Nat), mm_HR Y s φ T (mm_up V x j.toNatClampNeg (.ref v)) H1 → H1.size = H.size → W p l e R s m args below meth c H1 (locs ++ [⟨φ x, k⟩]) cells slots Q (F0 m (pc + 1) lsA rest)) : W p l e R s m args below meth c H locs cells slots Q (F0 m pc lsA (.ref (φ v) :: .int j :: .ref (φ x) :: rest)) := by
  obtain ⟨hx, hbb, hml, hown, hts, hin, hCK, -, -⟩ := hF
  obtain ⟨kd, len, hT, h1, h2, h3, h4⟩ := mm_in_some hi
  have e2 : kd = a := by omega
  subst e2
  obtain ⟨cellV, g1, g2, g3, -⟩ := mm_OB hG.2.2.1.1 hHR hbn hv
  have hcls := (hCK.1 b hbn).2
  obtain ⟨-, hRA, -⟩ := hCK.2.2 kd ha
  rw [← hb] at hRA
  obtain ⟨kA, comp, k1, k2, k3, -⟩ := hRA
  have hcomp : comp = Y.1.1 b := Option.some.inj (k3.symm.trans hcls.1)
  subst hcomp
  have hasg := va_assign hcls
  obtain ⟨kC, hkC, -⟩ := hcls.2
  exact W.aast hx hbb (mm_AR hHR (by omega) (by omega) hT) (fun q h => by cases h) (fun h => by cases h) k1 k2 rfl hkC ⟨h3, by rw [arrV_size]; exact h4⟩ g1 (fun q h => by rw [g3] at h; cases h) (by rw [g2]; exact hkC) (by rw [g2]; exact hasg) rfl rfl hd fun H1 e1 z1 o1 => kk H1 _ (mm_AR.put (v := .ref v) hHR (by omega) (by omega) hT (by show T v ≠ none; rw [hv]; exact fun z => by cases z) e1 z1 o1) z1
end MMW
