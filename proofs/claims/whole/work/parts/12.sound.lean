/-! What the program's tables must keep to, and that the machine of our own then tells what the Java machine does -/
def mm_CK (S : mm_S) (Y : mm_Y) (U : State) : Prop :=
  (∀ ci, ci < mm_nc S → u_Kn U (mm_ck S ci).1 (mm_ck S ci).2.1 (mm_sl S.1 ci) (Y.1.1 ci) (Y.1.2 ci)) ∧ (ArrOfT U (Y.2.1 100) .int ∧ va_RA U (Y.2.1 100) .int) ∧
  ∀ kd, (kd = 102 ∨ kd = 103) → ArrOfT U (Y.2.1 kd) (.object (mm_ck S (mm_ek S kd)).1) ∧ va_RA U (Y.2.1 kd) (.object (mm_ck S (mm_ek S kd)).1) ∧ va_AO (mm_ck S (mm_ek S kd)).1 U
theorem mm_CK.moved {S : mm_S} {Y : mm_Y} {u U : State} (hvm : u.vm.Alike U.vm) (h : mm_CK S Y u) : mm_CK S Y U :=
  ⟨fun ci hc => u_Kn_moved hvm (h.1 ci hc), ⟨arrOfT_moved hvm h.2.1.1, h.2.1.2.moved hvm⟩, fun kd hk => ⟨arrOfT_moved hvm (h.2.2 kd hk).1, (h.2.2 kd hk).2.1.moved hvm, (h.2.2 kd hk).2.2.moved hvm⟩⟩
def mm_NK (S : mm_S) (U : State) : Prop := ∀ w ∈ mm_NL S, va_Nw w U
def mm_NG (S : mm_S) : Prop := ∀ w ∈ mm_NL S, ∃ (a : String) (i : Nat) (x : MethodName) (h : String), w = Cond.methodLinkNest a i x h
theorem mm_NK.warm {S : mm_S} {s U : State} (hn : mm_NG S) (hW : s.WarmedH U.vm) (h : mm_NK S s) : mm_NK S U := by
  intro w hw
  have h1 := h w hw
  obtain ⟨a, i, x, q, rfl⟩ := hn w hw
  exact va_Nw.warmM hW h1
theorem mm_NK.same {S : mm_S} {s U : State} (hn : mm_NG S) (hW : s.vm = U.vm) (h : mm_NK S s) : mm_NK S U := by
  intro w hw
  have h1 := h w hw
  obtain ⟨a, i, x, q, rfl⟩ := hn w hw
  exact va_Nw.same rfl hW h1
def mm_dc (S : mm_S) (μ pc : Nat) (ins : Instr) (n : Nat) : Bool := decide (decode (mm_mb S μ) pc = .ok (ins, n))
def mm_fd (S : mm_S) (μ a b w i : Nat) : Bool := decide (a < mm_nc S) && (decide (b < mm_sl S.1 a) && decide ((mm_AL S)[w]? = some (Jvm.Cond.fieldLink (mm_mn S μ).cls i ((mm_ck S a).2.1 b).1 ((mm_ck S a).2.1 b).2.1 ((mm_ck S a).2.1 b).2.2.1)))
def mm_ml (S : mm_S) (μ a b w i k : Nat) : Bool := decide (a < mm_nm S) && (decide (mm_km S a = (k, b)) && decide ((mm_AL S)[w]? = some (Jvm.Cond.methodLink (mm_mn S μ).cls i (mm_mn S a))))
def mm_mn3 (S : mm_S) (μ a b w i : Nat) : Bool := decide (a < mm_nm S) && (decide (mm_km S a = (3, b)) && decide ((mm_NL S)[w]? = some (Jvm.Cond.methodLinkNest (mm_mn S μ).cls i (mm_mn S a) "StackPolicyKernel")))
def mm_ok (S : mm_S) (μ pc : Nat) (e : mm_E) : Bool := match e with
  | (ins, a, b, w) => match ins with
    | .bipush n => mm_dc S μ pc (.bipush n) 2 && decide ((Int8.ofInt n).toInt32 = Int32.ofInt n)
    | .sipush n => mm_dc S μ pc (.sipush n) 3 && decide ((Int16.ofInt n).toInt32 = Int32.ofInt n)
    | .iload i => mm_dc S μ pc (.iload i) 2
    | .aload i => mm_dc S μ pc (.aload i) 2
    | .lload i => mm_dc S μ pc (.lload i) 2
    | .istore i => mm_dc S μ pc (.istore i) 2
    | .astore i => mm_dc S μ pc (.astore i) 2
    | .lstore i => mm_dc S μ pc (.lstore i) 2
    | .iinc i n => mm_dc S μ pc (.iinc i n) 3
    | .goto o => mm_dc S μ pc (.goto o) 3 && decide ((pc : Int) + o = (a : Int))
    | .ifCond q o => mm_dc S μ pc (.ifCond q o) 3 && decide ((pc : Int) + o = (a : Int))
    | .if_icmp q o => mm_dc S μ pc (.if_icmp q o) 3 && decide ((pc : Int) + o = (a : Int))
    | .tableswitch x y z o => mm_dc S μ pc (.tableswitch x y z o) b
    | .getfield i => mm_dc S μ pc (.getfield i) 3 && mm_fd S μ a b w i
    | .putfield i => mm_dc S μ pc (.putfield i) 3 && (mm_fd S μ a b w i && (decide (((mm_ck S a).2.1 b).2.2.2 = false) || (decide (((mm_ck S a).2.1 b).2.2.2 = true) && (decide ((mm_mn S μ).name = "<init>") && decide (((mm_ck S a).2.1 b).1 = (mm_mn S μ).cls)))))
    | .new i => mm_dc S μ pc (.new i) 3 && (decide (a < mm_nc S) && decide ((mm_AL S)[w]? = some (Jvm.Cond.classLink (mm_mn S μ).cls i (mm_ck S a).1)))
    | .newarray t => mm_dc S μ pc (.newarray t) 2 && decide (t = .int)
    | .anewarray i => mm_dc S μ pc (.anewarray i) 3 && ((decide (a = 102) || decide (a = 103)) && decide ((mm_AL S)[w]? = some (Jvm.Cond.classLink (mm_mn S μ).cls i (mm_ck S (mm_ek S a)).1)))
    | .aastore => mm_dc S μ pc .aastore 1 && ((decide (a = 102) || decide (a = 103)) && (decide (b = mm_ek S a) && decide (b < mm_nc S)))
    | .invokestatic i => mm_dc S μ pc (.invokestatic i) 3 && (if a = 999 then decide ((mm_AL S)[w]? = some (Jvm.Cond.methodLink (mm_mn S μ).cls i Lib.Math.max.name)) else mm_ml S μ a b w i 0)
    | .invokevirtual i => mm_dc S μ pc (.invokevirtual i) 3 && mm_ml S μ a b w i 1
    | .invokespecial i => mm_dc S μ pc (.invokespecial i) 3 && (if a = 998 then decide ((mm_AL S)[w]? = some (Jvm.Cond.methodLink (mm_mn S μ).cls i Lib.objectInit)) else if (mm_km S a).1 = 3 then mm_mn3 S μ a b w i else mm_ml S μ a b w i 2)
    | i => mm_dc S μ pc i 1
def mm_mok (S : mm_S) (μ : Nat) : Prop :=
  (plainName (mm_mn S μ).cls = true ∧ Cond.code (mm_mn S μ) (mm_mb S μ) (mm_mx S.1 μ) (mm_mr S μ) ∈ mm_AL S ∧ Cond.initialized (mm_mn S μ).cls ∈ mm_AL S ∧ (mm_mn S μ).cls ≠ "java/lang/invoke/MethodHandle" ∧ (mm_mn S μ).cls ≠ "java/lang/invoke/VarHandle") ∧
  (mm_mx S.1 μ ≤ 8 ∧ (mm_km S μ).2 ≤ mm_mx S.1 μ) ∧ ((mm_rb S.1 μ = 0 ∧ mm_mr S μ = none) ∨ (mm_rb S.1 μ = 1 ∧ mm_mr S μ = some .int) ∨ (mm_rb S.1 μ = 2 ∧ mm_mr S μ = some .boolean)) ∧
  (((mm_km S μ).1 = 0 ∧ (parseMethodDescriptor (mm_mn S μ).desc).map (fun d => d.parameters.length) = some (mm_km S μ).2 ∧ Cond.static (mm_mn S μ) ∈ mm_AL S) ∨
   ((mm_km S μ).1 = 1 ∧ (parseMethodDescriptor (mm_mn S μ).desc).map (fun d => d.parameters.length + 1) = some (mm_km S μ).2 ∧ Cond.instanceMethod (mm_mn S μ) ∈ mm_AL S ∧ Cond.selects (mm_mn S μ).cls (mm_mn S μ) (mm_mn S μ) ∈ mm_AL S ∧ mm_rc S.1 μ < mm_nc S ∧ (mm_ck S (mm_rc S.1 μ)).1 = (mm_mn S μ).cls) ∨
   (((mm_km S μ).1 = 2 ∨ (mm_km S μ).1 = 3) ∧ (parseMethodDescriptor (mm_mn S μ).desc).map (fun d => d.parameters.length + 1) = some (mm_km S μ).2 ∧ Cond.instanceMethod (mm_mn S μ) ∈ mm_AL S ∧ (mm_mn S μ).name = "<init>"  ∧ mm_mr S μ = none))
def mm_pt (ty : FieldType) : Bool := match ty with
  | .int => true
  | .boolean => true
  | .object _ => true
  | .array _ => true
  | _ => false
def mm_cok (S : mm_S) (ci : Nat) : Prop :=
  (∀ w ∈ u_ws (mm_ck S ci).1 (mm_ck S ci).2.1 (mm_sl S.1 ci), w ∈ mm_AL S) ∧ Cond.instantiable (mm_ck S ci).1 (mm_sl S.1 ci) ∈ mm_AL S ∧ Cond.initialized (mm_ck S ci).1 ∈ mm_AL S ∧
  (∀ k, k < mm_sl S.1 ci → parseFieldDescriptor ((mm_ck S ci).2.1 k).2.2.1 = some (mm_ft S.1 ci k)) ∧ (∀ a, a < mm_sl S.1 ci → ∀ b, b < mm_sl S.1 ci → a ≠ b → ((mm_ck S ci).2.1 a).2.1 ≠ ((mm_ck S ci).2.1 b).2.1) ∧ ∀ k, k < mm_sl S.1 ci → mm_pt (mm_ft S.1 ci k) = true
def mm_Good (S : mm_S) : Prop :=
  (∀ μ pc e, mm_tb S.1 μ pc = some e → mm_ok S μ pc e = true) ∧ (∀ w ∈ mm_AL S, (w.onTables && w.keeps) = true ∨ ∃ ty, w = .arrayClass ty) ∧ (mm_nc S ≤ 100 ∧ ∀ ci, ci < mm_nc S → mm_cok S ci) ∧ ((∀ μ, μ < mm_nm S → mm_mok S μ) ∧ mm_NG S) ∧
  Cond.arrayClass .int ∈ mm_AL S ∧ (Cond.instanceMethod Lib.objectInit ∈ mm_AL S ∧ Cond.code Lib.objectInit ⟨#[0xb1]⟩ 1 none ∈ mm_AL S) ∧
  Cond.static Lib.Math.max.name ∈ mm_AL S ∧ Cond.initialized "java/lang/Math" ∈ mm_AL S ∧ Cond.code Lib.Math.max.name Lib.Math.max.code 2 (some .int) ∈ mm_AL S
def mm_Fix (S : mm_S) (Y : mm_Y) (p : Program) (R : Room) (s : State) (m : MethodId) (args : Array Value) (meth : Method) (c : Code) (μ d : Nat) : Prop :=
  p.tables.exec = Jvm.exec ∧ c.code = mm_mb S μ ∧ c.maxLocals = mm_mx S.1 μ ∧ s.vm.findClass (mm_mn S μ).cls = some m.cls ∧ (∀ w ∈ mm_AL S, w.before args s = true) ∧ meth.name = (mm_mn S μ).name ∧ mm_CK S Y s ∧ (d ≤ R.frames ∧ mm_NK S s) ∧ 27 * d ≤ R.locals
def mm_Ret (S : mm_S) (Y : mm_Y) (p : Program) (l : Launch) (e : Env) (R : Room) (s : State) (m : MethodId) (args : Array Value) (below : List Frame) (meth : Method) (c : Code) (Q : State → Prop) (μ : Nat) (φ : Nat → Nat) (T : mm_T) (r : mm_R) : Prop :=
  ∀ (φ' : Nat → Nat) (H' : Heap) (locs' : List Loc) (pcR : Nat) (lsR : Array Slot), mm_HR Y s φ' r.2.1 r.2.2.1 H' → Y.2.2 ≤ H'.size → (∀ q ∈ locs', Y.2.2 ≤ q.base) → mm_ext φ T φ' r.2.1 →
    (∀ x, r.1 = some (.int x) → (mm_rb S.1 μ = 1 ∨ mm_rb S.1 μ = 2 ∧ (x = 0 ∨ x = 1)) → decode (mm_mb S μ) pcR = .ok (.ireturn, 1) → W p l e R s m args below meth c H' locs' r.2.2.2.1 r.2.2.2.2 Q (F0 m pcR lsR [.int x])) ∧
    (r.1 = none → mm_rb S.1 μ = 0 → decode (mm_mb S μ) pcR = .ok (.return_, 1) → W p l e R s m args below meth c H' locs' r.2.2.2.1 r.2.2.2.2 Q (F0 m pcR lsR []))
theorem mm_Ret.ext {S : mm_S} {Y : mm_Y} {p : Program} {l : Launch} {e : Env} {R : Room} {s : State} {m : MethodId} {args : Array Value} {below : List Frame} {meth : Method} {c : Code} {Q : State → Prop} {μ : Nat} {φ φ1 : Nat → Nat} {T T1 : mm_T} {r : mm_R} (h : mm_Ret S Y p l e R s m args below meth c Q μ φ T r) (hE : mm_ext φ T φ1 T1) : mm_Ret S Y p l e R s m args below meth c Q μ φ1 T1 r :=
  fun φ' H' locs' pcR lsR h1 h2 h3 h4 => h φ' H' locs' pcR lsR h1 h2 h3 (hE.trans h4)
def mm_Now (S : mm_S) (Y : mm_Y) (p : Program) (l : Launch) (e : Env) (R : Room) (s : State) (m : MethodId) (args : Array Value) (below : List Frame) (meth : Method) (c : Code) (Q : State → Prop) (d μ pc : Nat) (ls st : List Value) (g : mm_M) (r : mm_R) : Prop :=
  mm_Fix S Y p R s m args meth c μ d → r.2.2.2.1 ≤ R.cells → r.2.2.2.2 ≤ R.slots → ∀ (H : Heap) (locs : List Loc) (lsA : Array Slot) (φ : Nat → Nat), mm_HR Y s φ g.1 g.2.1 H → Y.2.2 ≤ H.size → (∀ q ∈ locs, Y.2.2 ≤ q.base) → mm_LR φ g.1 ls lsA (mm_mx S.1 μ) → (∀ v ∈ st, mm_lv g.1 v) →
    mm_Ret S Y p l e R s m args below meth c Q μ φ g.1 r → W p l e R s m args below meth c H locs g.2.2.1 g.2.2.2 Q (F0 m pc lsA (st.map (mm_cv φ)))
def mm_Con (S : mm_S) (Y : mm_Y) (d μ pc : Nat) (ls st : List Value) (g : mm_M) (r : mm_R) : Prop :=
  ((g.2.2.1 ≤ r.2.2.2.1 ∧ g.2.2.2 ≤ r.2.2.2.2) ∧ (r.1 = none ∨ ∃ x, r.1 = some (.int x))) ∧ ∀ (p : Program) (l : Launch) (e : Env) (R : Room) (s : State) (m : MethodId) (args : Array Value) (below : List Frame) (meth : Method) (c : Code) (Q : State → Prop), mm_Now S Y p l e R s m args below meth c Q d μ pc ls st g r
def mm_IH (S : mm_S) (Y : mm_Y) (n : Nat) : Prop := ∀ d μ pc ls st g r, mm_run S.1 n d μ pc ls st g = some r → mm_Con S Y d μ pc ls st g r
theorem mm_one {S : mm_S} {Y : mm_Y} {n d μ pc pc' : Nat} {ls st ls' st' : List Value} {g g' : mm_M} {r : mm_R} (ih : mm_IH S Y n) (hk : mm_run S.1 n d μ pc' ls' st' g' = some r) (h1 : g.2.2.1 ≤ g'.2.2.1) (h2 : g.2.2.2 ≤ g'.2.2.2)
    (hstep : ∀ (p : Program) (l : Launch) (e : Env) (R : Room) (s : State) (m : MethodId) (args : Array Value) (below : List Frame) (meth : Method) (c : Code) (Q : State → Prop), g'.2.2.1 ≤ r.2.2.2.1 → g'.2.2.2 ≤ r.2.2.2.2 → mm_Now S Y p l e R s m args below meth c Q d μ pc' ls' st' g' r → mm_Now S Y p l e R s m args below meth c Q d μ pc ls st g r) : mm_Con S Y d μ pc ls st g r := by
  obtain ⟨⟨⟨a1, a2⟩, a3⟩, a4⟩ := ih _ _ _ _ _ _ _ hk
  exact ⟨⟨⟨Nat.le_trans h1 a1, Nat.le_trans h2 a2⟩, a3⟩, fun p l e R s m args below meth c Q => hstep p l e R s m args below meth c Q a1 a2 (a4 p l e R s m args below meth c Q)⟩
theorem mm_i1_some {st : List Value} {k : Int32 → List Value → Option mm_R} {r : mm_R} (h : mm_i1 st k = some r) : ∃ x t, st = .int x :: t ∧ k x t = some r := by
  unfold mm_i1 at h
  split at h
  · exact ⟨_, _, rfl, h⟩
  · cases h
theorem mm_i2_some {st : List Value} {k : Int32 → Int32 → List Value → Option mm_R} {r : mm_R} (h : mm_i2 st k = some r) : ∃ x y t, st = .int y :: .int x :: t ∧ k x y t = some r := by
  unfold mm_i2 at h
  split at h
  · exact ⟨_, _, _, rfl, h⟩
  · cases h
theorem mm_l1_some {st : List Value} {k : Int64 → List Value → Option mm_R} {r : mm_R} (h : mm_l1 st k = some r) : ∃ x t, st = .long x :: t ∧ k x t = some r := by
  unfold mm_l1 at h
  split at h
  · exact ⟨_, _, rfl, h⟩
  · cases h
theorem mm_l2_some {st : List Value} {k : Int64 → Int64 → List Value → Option mm_R} {r : mm_R} (h : mm_l2 st k = some r) : ∃ x y t, st = .long y :: .long x :: t ∧ k x y t = some r := by
  unfold mm_l2 at h
  split at h
  · exact ⟨_, _, _, rfl, h⟩
  · cases h
theorem mm_r1_some {st : List Value} {k : Nat → List Value → Option mm_R} {r : mm_R} (h : mm_r1 st k = some r) : ∃ x t, st = .ref x :: t ∧ k x t = some r := by
  unfold mm_r1 at h
  split at h
  · exact ⟨_, _, rfl, h⟩
  · cases h
theorem mm_vr_some {st : List Value} {k : Value → Nat → List Value → Option mm_R} {r : mm_R} (h : mm_vr st k = some r) : ∃ v x t, st = v :: .ref x :: t ∧ k v x t = some r := by
  unfold mm_vr at h
  split at h
  · exact ⟨_, _, _, rfl, h⟩
  · cases h
theorem mm_ir_some {st : List Value} {k : Int32 → Nat → List Value → Option mm_R} {r : mm_R} (h : mm_ir st k = some r) : ∃ j x t, st = .int j :: .ref x :: t ∧ k j x t = some r := by
  unfold mm_ir at h
  split at h
  · exact ⟨_, _, _, rfl, h⟩
  · cases h
theorem mm_iir_some {st : List Value} {k : Int32 → Int32 → Nat → List Value → Option mm_R} {r : mm_R} (h : mm_iir st k = some r) : ∃ v j x t, st = .int v :: .int j :: .ref x :: t ∧ k v j x t = some r := by
  unfold mm_iir at h
  split at h
  · exact ⟨_, _, _, _, rfl, h⟩
  · cases h
theorem mm_rir_some {st : List Value} {k : Nat → Int32 → Nat → List Value → Option mm_R} {r : mm_R} (h : mm_rir st k = some r) : ∃ v j x t, st = .ref v :: .int j :: .ref x :: t ∧ k v j x t = some r := by
  unfold mm_rir at h
  split at h
  · exact ⟨_, _, _, _, rfl, h⟩
  · cases h
theorem mm_v1_some {st : List Value} {k : Value → List Value → Option mm_R} {r : mm_R} (h : mm_v1 st k = some r) : ∃ v t, st = v :: t ∧ k v t = some r := by
  unfold mm_v1 at h
  split at h
  · exact ⟨_, _, rfl, h⟩
  · cases h
theorem mm_v2_some {st : List Value} {k : Value → Value → List Value → Option mm_R} {r : mm_R} (h : mm_v2 st k = some r) : ∃ v w t, st = v :: w :: t ∧ k v w t = some r := by
  unfold mm_v2 at h
  split at h
  · exact ⟨_, _, _, rfl, h⟩
  · cases h
theorem mm_oi_some {v : Value} {k : Int32 → Option mm_R} {r : mm_R} (h : mm_oi v k = some r) : ∃ x, v = .int x ∧ k x = some r := by
  unfold mm_oi at h
  split at h
  · exact ⟨_, rfl, h⟩
  · cases h
theorem mm_or_some {v : Value} {k : Nat → Option mm_R} {r : mm_R} (h : mm_or v k = some r) : ∃ x, v = .ref x ∧ k x = some r := by
  unfold mm_or at h
  split at h
  · exact ⟨_, rfl, h⟩
  · cases h
theorem mm_ol_some {v : Value} {k : Int64 → Option mm_R} {r : mm_R} (h : mm_ol v k = some r) : ∃ x, v = .long x ∧ k x = some r := by
  unfold mm_ol at h
  split at h
  · exact ⟨_, rfl, h⟩
  · cases h
theorem mm_in_some {o : Option (Nat × Nat)} {lo hi : Nat} {j : Int32} (h : mm_in o lo hi j = true) : ∃ kd len, o = some (kd, len) ∧ lo ≤ kd ∧ kd ≤ hi ∧ ¬ j < 0 ∧ j.toNatClampNeg < len := by
  unfold mm_in at h
  split at h
  · obtain ⟨h1, h2, h3, h4⟩ := of_decide_eq_true h
    exact ⟨_, _, rfl, h1, h2, Int32.not_lt.mpr h3, h4⟩
  · cases h
theorem mm_ln_some {o : Option (Nat × Nat)} {k : Nat → Option mm_R} {r : mm_R} (h : mm_ln o k = some r) : ∃ kd len, o = some (kd, len) ∧ 100 ≤ kd ∧ kd ≤ 103 ∧ k len = some r := by
  unfold mm_ln at h
  split at h
  · split at h
    · rename_i h1
      exact ⟨_, _, rfl, h1.1, h1.2, h⟩
    · cases h
  · cases h
theorem mm_go_some {o : Option Int} {pc : Nat} {k : Nat → Option mm_R} {r : mm_R} (h : mm_go o pc k = some r) : ∃ (off : Int) (t : Nat), o = some off ∧ (pc : Int) + off = (t : Int) ∧ k t = some r := by
  unfold mm_go at h
  split at h
  · split at h
    · rename_i h1
      exact ⟨_, _, rfl, (Int.toNat_of_nonneg h1).symm, h⟩
    · cases h
  · cases h
theorem mm_if_some {c : Prop} {a : Option mm_R} {r : mm_R} {i : Decidable c} (h : @ite _ c i a none = some r) : c ∧ a = some r := by
  by_cases hc : c
  · rw [if_pos hc] at h
    exact ⟨hc, h⟩
  · rw [if_neg hc] at h
    cases h
theorem mm_if_none {c : Prop} {a : Option mm_R} {r : mm_R} {i : Decidable c} (h : @ite _ c i none a = some r) : ¬ c ∧ a = some r := by
  by_cases hc : c
  · rw [if_pos hc] at h
    cases h
  · rw [if_neg hc] at h
    exact ⟨hc, h⟩
theorem mm_cc {T : mm_T} {v : Value} {l : List Value} (hv : mm_lv T v) (h : ∀ w ∈ l, mm_lv T w) : ∀ w ∈ v :: l, mm_lv T w := List.forall_mem_cons.mpr ⟨hv, h⟩
theorem mm_t1 {T : mm_T} {v : Value} {l : List Value} (h : ∀ w ∈ v :: l, mm_lv T w) : ∀ w ∈ l, mm_lv T w := (List.forall_mem_cons.mp h).2
theorem mm_h1 {T : mm_T} {v : Value} {l : List Value} (h : ∀ w ∈ v :: l, mm_lv T w) : mm_lv T v := (List.forall_mem_cons.mp h).1
theorem mm_catsum : ∀ l : List Value, (l.map fun v => v.category).sum ≤ 2 * l.length
  | [] => Nat.le_refl _
  | v :: l => by
    have := mm_catsum l
    have h2 : v.category ≤ 2 := by rcases lv_cat v with h | h <;> omega
    rw [List.map_cons, List.sum_cons, List.length_cons]
    omega
theorem mm_cv_def (φ : Nat → Nat) (ty : FieldType) : mm_cv φ (defaultValue ty) = defaultValue ty := by cases ty <;> rfl
theorem mm_lv_def (T : mm_T) (ty : FieldType) : mm_lv T (defaultValue ty) := by cases ty <;> trivial
theorem mm_fits_nar {ty : FieldType} {v : Value} (h : fits ty v = true) (hn : mm_pt ty = true) : narrow ty v = v := by
  cases ty with
  | boolean =>
    cases v with
    | int x =>
      simp only [fits, Bool.or_eq_true, beq_iff_eq] at h
      rcases h with rfl | rfl <;> rfl
    | _ => rfl
  | byte => cases hn
  | char => cases hn
  | short => cases hn
  | _ => rfl
theorem mm_fits_cv {ty : FieldType} {v : Value} {φ : Nat → Nat} (h : fits ty v = true) : fits ty (mm_cv φ v) = true := by
  cases v with
  | ref a => cases ty <;> first | exact h | rfl
  | _ => exact h
