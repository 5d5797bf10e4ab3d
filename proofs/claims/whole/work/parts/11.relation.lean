/-! What the machine of our own has to do with the heap: an address goes by φ to the heap's -/
/-- the program: tables; how many classes; the classes; the elements' class of an array kind; code, name and answer of a method; the words; how a method is called (0 static, 1 virtual, 2 a constructor, 3 a nest mate's private constructor) and with how many values; how many methods; the nest mates' links -/
abbrev mm_S : Type := mm_G × Nat × (Nat → vw_C) × (Nat → Nat) × (Nat → ByteArray) × (Nat → MethodName) × (Nat → Option FieldType) × List Cond × (Nat → Nat × Nat) × Nat × List Cond
abbrev mm_nc (S : mm_S) : Nat := S.2.1
abbrev mm_ck (S : mm_S) : Nat → vw_C := S.2.2.1
abbrev mm_ek (S : mm_S) : Nat → Nat := S.2.2.2.1
abbrev mm_mb (S : mm_S) : Nat → ByteArray := S.2.2.2.2.1
abbrev mm_mn (S : mm_S) : Nat → MethodName := S.2.2.2.2.2.1
abbrev mm_mr (S : mm_S) : Nat → Option FieldType := S.2.2.2.2.2.2.1
abbrev mm_AL (S : mm_S) : List Cond := S.2.2.2.2.2.2.2.1
abbrev mm_km (S : mm_S) : Nat → Nat × Nat := S.2.2.2.2.2.2.2.2.1
abbrev mm_nm (S : mm_S) : Nat := S.2.2.2.2.2.2.2.2.2.1
abbrev mm_NL (S : mm_S) : List Cond := S.2.2.2.2.2.2.2.2.2.2
/-- the start: class numbers and slots, array classes, the heap's size -/
abbrev mm_Y : Type := va_G × (Nat → ClassId) × Nat
def mm_cv (φ : Nat → Nat) (v : Value) : Value := match v with
  | .ref a => .ref (φ a)
  | w => w
def mm_lv (T : mm_T) (v : Value) : Prop := match v with
  | .ref a => T a ≠ none
  | _ => True
def mm_fu (φ : Nat → Nat) (x q : Nat) : Nat → Nat := fun y => if y = x then q else φ y
def mm_cell (Y : mm_Y) (U : State) (φ : Nat → Nat) (V : mm_V) (H : Heap) (x kd len : Nat) : Prop :=
  if kd < 100 then t_OB (φ x) (Y.1.1 kd) len (Y.1.2 kd) H (fun k => mm_cv φ (V x k))
  else if kd = 101 then ∃ scr : Cell, H[φ x]? = some scr ∧ U.isArrayOf scr .int ∧ scr.vm ≠ .unknown ∧ scr.slots.size = len ∧ ∀ j : Nat, j < len → scr.slots[j]? = some (mm_cv φ (V x j))
  else H[φ x]? = some (arrV (Y.2.1 kd) len (fun j => mm_cv φ (V x j)))
def mm_HR (Y : mm_Y) (U : State) (φ : Nat → Nat) (T : mm_T) (V : mm_V) (H : Heap) : Prop :=
  (∀ x kd len, T x = some (kd, len) → mm_cell Y U φ V H x kd len ∧ φ x < H.size ∧ (kd ≠ 101 → Y.2.2 ≤ φ x) ∧ ∀ k, k < len → mm_lv T (V x k)) ∧ ∀ x y, T x ≠ none → T y ≠ none → φ x = φ y → x = y
def mm_ext (φ : Nat → Nat) (T : mm_T) (φ' : Nat → Nat) (T' : mm_T) : Prop := ∀ x, T x ≠ none → T' x = T x ∧ φ' x = φ x
theorem mm_ext.rf {φ : Nat → Nat} {T : mm_T} : mm_ext φ T φ T := fun _ _ => ⟨rfl, rfl⟩
theorem mm_ext.trans {φ φ1 φ2 : Nat → Nat} {T T1 T2 : mm_T} (h : mm_ext φ T φ1 T1) (h2 : mm_ext φ1 T1 φ2 T2) : mm_ext φ T φ2 T2 := by
  intro x hx
  obtain ⟨a, b⟩ := h x hx
  obtain ⟨a2, b2⟩ := h2 x (by rw [a]; exact hx)
  exact ⟨a2.trans a, b2.trans b⟩
theorem mm_cv_ext {φ φ' : Nat → Nat} {T T' : mm_T} (h : mm_ext φ T φ' T') {v : Value} (hv : mm_lv T v) : mm_cv φ' v = mm_cv φ v := by
  cases v with
  | ref a => show Value.ref (φ' a) = Value.ref (φ a); rw [(h a hv).2]
  | _ => rfl
theorem mm_lv_ext {φ φ' : Nat → Nat} {T T' : mm_T} (h : mm_ext φ T φ' T') {v : Value} (hv : mm_lv T v) : mm_lv T' v := by
  cases v with
  | ref a => show T' a ≠ none; rw [(h a hv).1]; exact hv
  | _ => trivial
theorem mm_map_ext {φ φ' : Nat → Nat} {T T' : mm_T} (h : mm_ext φ T φ' T') {st : List Value} (hv : ∀ v ∈ st, mm_lv T v) : st.map (mm_cv φ') = st.map (mm_cv φ) :=
  List.map_congr_left fun v hm => mm_cv_ext h (hv v hm)
theorem mm_arrV_ext {cA : ClassId} {n : Nat} {f f' : Nat → Value} (h : ∀ j, j < n → f j = f' j) : arrV cA n f = arrV cA n f' := by
  unfold arrV
  congr 1
  congr 1
  funext j
  exact h j.val j.isLt
theorem mm_cell.kept {Y : mm_Y} {U : State} {φ φ' : Nat → Nat} {V V' : mm_V} {H H' : Heap} {x kd len : Nat} (h : mm_cell Y U φ V H x kd len) (hφ : φ' x = φ x) (hq : H'[φ x]? = H[φ x]?) (hv : ∀ k, k < len → mm_cv φ' (V' x k) = mm_cv φ (V x k)) : mm_cell Y U φ' V' H' x kd len := by
  unfold mm_cell at h ⊢
  rw [hφ]
  split
  · rename_i h0
    rw [if_pos h0] at h
    obtain ⟨cell, q, r1, r2, r3⟩ := h
    exact ⟨cell, by rw [hq]; exact q, r1, r2, fun k hk => (r3 k hk).trans (congrArg some (hv k hk).symm)⟩
  · rename_i h0
    rw [if_neg h0] at h
    split
    · rename_i h1
      rw [if_pos h1] at h
      obtain ⟨scr, q, r1, r2, r3, r4⟩ := h
      exact ⟨scr, by rw [hq]; exact q, r1, r2, r3, fun k hk => (r4 k hk).trans (congrArg some (hv k hk).symm)⟩
    · rename_i h1
      rw [if_neg h1] at h
      rw [hq, h]
      exact congrArg some (mm_arrV_ext fun j hj => (hv j hj).symm)
theorem mm_cell.moved {Y : mm_Y} {u U : State} {φ : Nat → Nat} {V : mm_V} {H : Heap} {x kd len : Nat} (hvm : u.vm.Alike U.vm) (h : mm_cell Y u φ V H x kd len) : mm_cell Y U φ V H x kd len := by
  unfold mm_cell at h ⊢
  split
  · rename_i h0
    rw [if_pos h0] at h
    exact h
  · rename_i h0
    rw [if_neg h0] at h
    split
    · rename_i h1
      rw [if_pos h1] at h
      obtain ⟨scr, q, r1, r2⟩ := h
      exact ⟨scr, q, State.isArrayOf_alike hvm r1, r2⟩
    · rename_i h1
      rw [if_neg h1] at h
      exact h
theorem mm_HR.moved {Y : mm_Y} {u U : State} {φ : Nat → Nat} {T : mm_T} {V : mm_V} {H : Heap} (hvm : u.vm.Alike U.vm) (h : mm_HR Y u φ T V H) : mm_HR Y U φ T V H :=
  ⟨fun x kd len hx => ⟨(h.1 x kd len hx).1.moved hvm, (h.1 x kd len hx).2⟩, h.2⟩
theorem mm_HR.put {Y : mm_Y} {U : State} {φ : Nat → Nat} {T : mm_T} {V : mm_V} {H H' : Heap} (h : mm_HR Y U φ T V H) {x kd len k : Nat} {v : Value} (hT : T x = some (kd, len)) (hv : mm_lv T v) (hsz : H'.size = H.size) (hoff : ∀ q, q ≠ φ x → H'[q]? = H[q]?)
    (hc : mm_cell Y U φ (mm_up V x k v) H' x kd len) : mm_HR Y U φ T (mm_up V x k v) H' := by
  refine ⟨fun y kd' len' hy => ?_, h.2⟩
  by_cases e : y = x
  · subst e
    cases hT.symm.trans hy
    obtain ⟨-, a2, a3, a4⟩ := h.1 y _ _ hT
    refine ⟨hc, by rw [hsz]; exact a2, a3, fun j hj => ?_⟩
    unfold mm_up
    split
    · exact hv
    · exact a4 j hj
  · obtain ⟨a1, a2, a3, a4⟩ := h.1 y _ _ hy
    have e1 : ∀ j, mm_up V x k v y j = V y j := fun j => by unfold mm_up; rw [if_neg (fun q => e q.1)]
    refine ⟨a1.kept rfl (hoff _ fun q => e (h.2 y x (by rw [hy]; exact fun z => by cases z) (by rw [hT]; exact fun z => by cases z) q)) (fun j _ => by rw [e1]), by rw [hsz]; exact a2, a3, fun j hj => by rw [e1]; exact a4 j hj⟩
theorem mm_new_ext {φ : Nat → Nat} {T : mm_T} {x q kd len : Nat} (hT : T x = none) : mm_ext φ T (mm_fu φ x q) (mm_alT T x kd len) := by
  intro y hy
  have e : y ≠ x := fun z => hy (by rw [z]; exact hT)
  exact ⟨by unfold mm_alT; rw [if_neg e], by unfold mm_fu; rw [if_neg e]⟩
theorem mm_HR.new {Y : mm_Y} {U : State} {φ : Nat → Nat} {T : mm_T} {V : mm_V} {H H' : Heap} (h : mm_HR Y U φ T V H) {x kd len : Nat} {z : Nat → Value} (hT : T x = none) (hsz : H'.size = H.size + 1) (hoff : ∀ q, q < H.size → H'[q]? = H[q]?) (hB : Y.2.2 ≤ H.size)
    (hz : ∀ k, mm_lv T (z k)) (hc : mm_cell Y U (mm_fu φ x H.size) (mm_alV V x z) H' x kd len) : mm_HR Y U (mm_fu φ x H.size) (mm_alT T x kd len) (mm_alV V x z) H' := by
  have hE : mm_ext φ T (mm_fu φ x H.size) (mm_alT T x kd len) := mm_new_ext hT
  have hnx : ∀ y, y ≠ x → mm_fu φ x H.size y = φ y := fun y e => by unfold mm_fu; rw [if_neg e]
  have hxx : mm_fu φ x H.size x = H.size := by unfold mm_fu; rw [if_pos rfl]
  have hTn : ∀ y, y ≠ x → mm_alT T x kd len y = T y := fun y e => by unfold mm_alT; rw [if_neg e]
  have hlt : ∀ y, T y ≠ none → φ y < H.size := by
    intro y hy
    cases hq : T y with
    | none => exact absurd hq hy
    | some q => exact (h.1 y q.1 q.2 hq).2.1
  refine ⟨fun y kd' len' hy => ?_, fun a b ha hb hab => ?_⟩
  · by_cases e : y = x
    · subst e
      have : mm_alT T y kd len y = some (kd, len) := by unfold mm_alT; rw [if_pos rfl]
      cases this.symm.trans hy
      refine ⟨hc, by rw [hxx, hsz]; omega, fun _ => by rw [hxx]; exact hB, fun j hj => ?_⟩
      have e1 : mm_alV V y z y j = z j := by unfold mm_alV; rw [if_pos rfl]
      rw [e1]
      exact mm_lv_ext hE (hz j)
    · rw [hTn y e] at hy
      obtain ⟨a1, a2, a3, a4⟩ := h.1 y _ _ hy
      have e1 : ∀ j, mm_alV V x z y j = V y j := fun j => by unfold mm_alV; rw [if_neg e]
      refine ⟨a1.kept (hnx y e) (hoff _ a2) (fun j hj => by rw [e1]; exact mm_cv_ext hE (a4 j hj)), by rw [hnx y e, hsz]; omega, by rw [hnx y e]; exact a3, fun j hj => by rw [e1]; exact mm_lv_ext hE (a4 j hj)⟩
  · by_cases ea : a = x
    · by_cases eb : b = x
      · rw [ea, eb]
      · rw [hTn b eb] at hb
        rw [ea, hxx, hnx b eb] at hab
        have := hlt b hb
        omega
    · rw [hTn a ea] at ha
      rw [hnx a ea] at hab
      by_cases eb : b = x
      · rw [eb, hxx] at hab
        have := hlt a ha
        omega
      · rw [hTn b eb] at hb
        rw [hnx b eb] at hab
        exact h.2 a b ha hb hab
/-! locals -/
def mm_nr (v : Value) : Bool := match v with
  | .retAddr _ => false
  | _ => true
def mm_LR (φ : Nat → Nat) (T : mm_T) (ls : List Value) (lsA : Array Slot) (nL : Nat) : Prop :=
  lsA.size = nL ∧ ls.length = nL ∧ lv_wf lsA ∧ (∀ (i : Nat) (v : Value), ls[i]? = some v → mm_nr v = true → lsA[i]? = some (Slot.val (mm_cv φ v))) ∧ ∀ v ∈ ls, mm_lv T v
theorem mm_LR.ext {φ φ' : Nat → Nat} {T T' : mm_T} {ls : List Value} {lsA : Array Slot} {nL : Nat} (h : mm_LR φ T ls lsA nL) (hE : mm_ext φ T φ' T') : mm_LR φ' T' ls lsA nL :=
  ⟨h.1, h.2.1, h.2.2.1, fun i v hi hn => by rw [mm_cv_ext hE (h.2.2.2.2 v (List.mem_of_getElem? hi))]; exact h.2.2.2.1 i v hi hn, fun v hv => mm_lv_ext hE (h.2.2.2.2 v hv)⟩
theorem mm_ld_some {ls : List Value} {i : Nat} {v : Value} (h : mm_ld ls i = v) (hn : mm_nr v = true) : ls[i]? = some v := by
  unfold mm_ld at h
  rw [List.getD_eq_getElem?_getD] at h
  cases hi : ls[i]? with
  | none => rw [hi] at h; rw [← h] at hn; cases hn
  | some w => rw [hi] at h; exact congrArg some h
theorem mm_LR.at {φ : Nat → Nat} {T : mm_T} {ls : List Value} {lsA : Array Slot} {nL i : Nat} {v : Value} (h : mm_LR φ T ls lsA nL) (hl : mm_ld ls i = v) (hn : mm_nr v = true) : lsA[i]? = some (.val (mm_cv φ v)) := h.2.2.2.1 i v (mm_ld_some hl hn) hn
/-- the locals as the kit lists them -/
def mm_as (φ : Nat → Nat) (ls : List Value) : List (Nat × Value) := (List.range ls.length).filterMap fun i => if mm_nr (mm_ld ls i) = true then some (i, mm_cv φ (mm_ld ls i)) else none
theorem mm_as_mem {φ : Nat → Nat} {ls : List Value} {i : Nat} {v : Value} (hi : ls[i]? = some v) (hn : mm_nr v = true) : (i, mm_cv φ v) ∈ mm_as φ ls := by
  have hl : i < ls.length := (List.getElem?_eq_some_iff.mp hi).1
  have hd : mm_ld ls i = v := by unfold mm_ld; rw [List.getD_eq_getElem?_getD, hi]; rfl
  exact List.mem_filterMap.mpr ⟨i, List.mem_range.mpr hl, by rw [hd, if_pos hn]⟩
theorem mm_LR.has {φ : Nat → Nat} {T : mm_T} {ls : List Value} {lsA : Array Slot} {nL : Nat} (h : mm_LR φ T ls lsA nL) : lv_has lsA nL (mm_as φ ls) := by
  refine ⟨h.1, h.2.2.1, fun q hq => ?_⟩
  obtain ⟨i, -, hi⟩ := List.mem_filterMap.mp hq
  split at hi
  · rename_i hn
    cases hi
    exact h.at rfl hn
  · cases hi
theorem mm_so_len {ls : List Value} {i n : Nat} (h : mm_so ls i n = true) : i + n ≤ ls.length := by
  unfold mm_so at h
  simp only [Bool.and_eq_true, decide_eq_true_eq] at h
  exact h.1
theorem mm_so_prev {ls : List Value} {i n j : Nat} {w : Value} (h : mm_so ls i n = true) (hj : ls[j]? = some w) (hji : j + 1 = i) : ¬ w.category = 2 := by
  unfold mm_so at h
  simp only [Bool.and_eq_true, Bool.or_eq_true, decide_eq_true_eq] at h
  have hd : mm_ld ls (i - 1) = w := by
    have : i - 1 = j := by omega
    rw [this]; unfold mm_ld; rw [List.getD_eq_getElem?_getD, hj]; rfl
  rw [hd] at h
  omega
theorem mm_cat {φ : Nat → Nat} {w : Value} : (mm_cv φ w).category = w.category := by cases w <;> rfl
theorem mm_LR.set1 {φ : Nat → Nat} {T : mm_T} {ls : List Value} {lsA ls' : Array Slot} {nL i : Nat} {v : Value} (h : mm_LR φ T ls lsA nL) (hs : mm_so ls i 1 = true) (hv : mm_lv T v)
    (h' : lv_has ls' nL ((i, mm_cv φ v) :: (mm_as φ ls).filter (fun q => !(q.1 == i) && !(q.1 + 1 == i && q.2.category == 2)))) : mm_LR φ T (ls.set i v) ls' nL := by
  refine ⟨h'.1, by rw [List.length_set]; exact h.2.1, h'.2.1, fun j w hj hn => ?_, fun w hw => ?_⟩
  · by_cases e : j = i
    · subst e
      rw [List.getElem?_set_self (by have := mm_so_len hs; omega)] at hj
      cases hj
      exact h'.2.2 _ List.mem_cons_self
    · rw [List.getElem?_set_ne (Ne.symm e)] at hj
      refine h'.2.2 (j, mm_cv φ w) (List.mem_cons_of_mem _ (List.mem_filter.mpr ⟨mm_as_mem hj hn, ?_⟩))
      simp only [Bool.and_eq_true, Bool.not_eq_true', beq_eq_false_iff_ne, ne_eq, Bool.and_eq_false_iff]
      refine ⟨e, ?_⟩
      by_cases e2 : j + 1 = i
      · exact Or.inr (by rw [mm_cat]; exact mm_so_prev hs hj e2)
      · exact Or.inl e2
  · rcases List.mem_or_eq_of_mem_set hw with h1 | h1
    · exact h.2.2.2.2 w h1
    · rw [h1]; exact hv
theorem mm_LR.set2 {φ : Nat → Nat} {T : mm_T} {ls : List Value} {lsA ls' : Array Slot} {nL i : Nat} {v : Value} (h : mm_LR φ T ls lsA nL) (hs : mm_so ls i 2 = true) (hv : mm_lv T v)
    (h' : lv_has ls' nL ((i, mm_cv φ v) :: (mm_as φ ls).filter (fun q => !(q.1 == i) && (!(q.1 == i + 1) && !(q.1 + 1 == i && q.2.category == 2))))) : mm_LR φ T ((ls.set i v).set (i + 1) (.retAddr 0)) ls' nL := by
  refine ⟨h'.1, by rw [List.length_set, List.length_set]; exact h.2.1, h'.2.1, fun j w hj hn => ?_, fun w hw => ?_⟩
  · by_cases e1 : j = i + 1
    · subst e1
      rw [List.getElem?_set_self (by have := mm_so_len hs; rw [List.length_set]; omega)] at hj
      cases hj
      cases hn
    · rw [List.getElem?_set_ne (Ne.symm e1)] at hj
      by_cases e : j = i
      · subst e
        rw [List.getElem?_set_self (by have := mm_so_len hs; omega)] at hj
        cases hj
        exact h'.2.2 _ List.mem_cons_self
      · rw [List.getElem?_set_ne (Ne.symm e)] at hj
        refine h'.2.2 (j, mm_cv φ w) (List.mem_cons_of_mem _ (List.mem_filter.mpr ⟨mm_as_mem hj hn, ?_⟩))
        simp only [Bool.and_eq_true, Bool.not_eq_true', beq_eq_false_iff_ne, ne_eq, Bool.and_eq_false_iff]
        refine ⟨e, e1, ?_⟩
        by_cases e2 : j + 1 = i
        · exact Or.inr (by rw [mm_cat]; exact mm_so_prev hs hj e2)
        · exact Or.inl e2
  · rcases List.mem_or_eq_of_mem_set hw with h1 | h1
    · rcases List.mem_or_eq_of_mem_set h1 with h2 | h2
      · exact h.2.2.2.2 w h2
      · rw [h2]; exact hv
    · rw [h1]; trivial
/-! the locals with which a method begins -/
theorem mm_args_mem : ∀ (vs : List Value) (k i : Nat) (v : Value), (∀ w ∈ vs, mm_ar w = true) → vs[i]? = some v → ∀ φ : Nat → Nat, (k + i, mm_cv φ v) ∈ lv_args k (vs.map (mm_cv φ))
  | [], k, i, v, _, h, _ => by simp at h
  | a :: vs, k, i, v, hc, h, φ => by
    have ha : ¬ (mm_cv φ a).category = 2 := by
      have := hc a List.mem_cons_self
      cases a <;> simp_all [mm_ar, mm_cv, Value.category]
    rw [List.map_cons, lv_args, if_neg ha]
    cases i with
    | zero =>
      simp only [List.getElem?_cons_zero, Option.some.injEq] at h
      subst h
      exact List.mem_cons_self
    | succ j =>
      rw [List.getElem?_cons_succ] at h
      have := mm_args_mem vs (k + 1) j v (fun w hw => hc w (List.mem_cons_of_mem _ hw)) h φ
      rw [show k + (j + 1) = k + 1 + j by omega]
      exact List.mem_cons_of_mem _ this
theorem mm_sl_len (φ : Nat → Nat) : ∀ vs : List Value, (∀ w ∈ vs, mm_ar w = true) → (lg_sl (vs.map (mm_cv φ))).length = vs.length
  | [], _ => rfl
  | a :: vs, hc => by
    have ha : ¬ (mm_cv φ a).category = 2 := by
      have := hc a List.mem_cons_self
      cases a <;> simp_all [mm_ar, mm_cv, Value.category]
    have ih := mm_sl_len φ vs (fun w hw => hc w (List.mem_cons_of_mem _ hw))
    unfold lg_sl at ih ⊢
    rw [List.map_cons, List.flatMap_cons, if_neg ha, List.length_append, ih]
    simp
    omega
theorem mm_LR.entry {φ : Nat → Nat} {T : mm_T} {vs : List Value} {n : Nat} (hc : ∀ w ∈ vs, mm_ar w = true) (hn : vs.length ≤ n) (hv : ∀ w ∈ vs, mm_lv T w) :
    mm_LR φ T (vs ++ List.replicate (n - vs.length) (.retAddr 0)) ((lg_sl (vs.map (mm_cv φ)) ++ List.replicate (n - (lg_sl (vs.map (mm_cv φ))).length) Slot.unset).toArray) n := by
  have h := lv_entry (vs.map (mm_cv φ)) (n := n) (by rw [mm_sl_len φ vs hc]; exact hn)
  refine ⟨h.1, by simp; omega, h.2.1, fun i v hi hr => ?_, fun v hm => ?_⟩
  · by_cases hl : i < vs.length
    · rw [List.getElem?_append_left hl] at hi
      have := mm_args_mem vs 0 i v hc hi φ
      rw [Nat.zero_add] at this
      exact h.2.2 _ this
    · rw [List.getElem?_append_right (by omega)] at hi
      have := List.mem_of_getElem? hi
      rw [List.mem_replicate] at this
      rw [this.2] at hr
      cases hr
  · rcases List.mem_append.mp hm with h1 | h1
    · exact hv v h1
    · rw [List.mem_replicate] at h1
      rw [h1.2]
      trivial
