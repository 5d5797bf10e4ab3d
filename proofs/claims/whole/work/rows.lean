section
-- ===== PART A: goes FIRST, ahead of the names: the tables' words, and 'selects' of the private methods out of them =====
/-- a private method of a class that the tables say can be made, by its rows of tables_1 -/
def lw_okq (q : MethodName × Nat) : Prop := (q.1.cls ≠ "java/lang/invoke/MethodHandle" ∧ q.1.cls ≠ "java/lang/invoke/VarHandle") ∧ Cond.instantiable q.1.cls q.2 ∈ tables_1 ∧ Cond.privateMethod q.1 ∈ tables_1 ∧ Cond.instanceMethod q.1 ∈ tables_1
theorem lw_p0 : lw_okq (⟨"StackPolicyKernel", "isTask", "(I)Z"⟩, 8) := ⟨⟨by decide +kernel, by decide +kernel⟩, List.mem_of_getElem? (i := 10) (by decide +kernel), List.mem_of_getElem? (i := 191) (by decide +kernel), List.mem_of_getElem? (i := 192) (by decide +kernel)⟩
theorem lw_p1 : lw_okq (⟨"StackPolicyKernel", "passes", "(LStackPolicyKernel$Task;)Z"⟩, 8) := ⟨⟨by decide +kernel, by decide +kernel⟩, List.mem_of_getElem? (i := 10) (by decide +kernel), List.mem_of_getElem? (i := 251) (by decide +kernel), List.mem_of_getElem? (i := 252) (by decide +kernel)⟩
theorem lw_p2 : lw_okq (⟨"StackPolicyKernel", "longestHoldAgainst", "(LStackPolicyKernel$Task;)I"⟩, 8) := ⟨⟨by decide +kernel, by decide +kernel⟩, List.mem_of_getElem? (i := 10) (by decide +kernel), List.mem_of_getElem? (i := 255) (by decide +kernel), List.mem_of_getElem? (i := 256) (by decide +kernel)⟩
theorem lw_p3 : lw_okq (⟨"StackPolicyKernel", "makeTick", "()V"⟩, 8) := ⟨⟨by decide +kernel, by decide +kernel⟩, List.mem_of_getElem? (i := 10) (by decide +kernel), List.mem_of_getElem? (i := 304) (by decide +kernel), List.mem_of_getElem? (i := 305) (by decide +kernel)⟩
theorem lw_p4 : lw_okq (⟨"StackPolicyKernel", "firstInOrder", "()I"⟩, 8) := ⟨⟨by decide +kernel, by decide +kernel⟩, List.mem_of_getElem? (i := 10) (by decide +kernel), List.mem_of_getElem? (i := 308) (by decide +kernel), List.mem_of_getElem? (i := 309) (by decide +kernel)⟩
theorem lw_p5 : lw_okq (⟨"StackPolicyKernel", "isInOrder", "(I)Z"⟩, 8) := ⟨⟨by decide +kernel, by decide +kernel⟩, List.mem_of_getElem? (i := 10) (by decide +kernel), List.mem_of_getElem? (i := 312) (by decide +kernel), List.mem_of_getElem? (i := 313) (by decide +kernel)⟩
theorem lw_p6 : lw_okq (⟨"StackPolicyKernel", "comesBefore", "(II)Z"⟩, 8) := ⟨⟨by decide +kernel, by decide +kernel⟩, List.mem_of_getElem? (i := 10) (by decide +kernel), List.mem_of_getElem? (i := 316) (by decide +kernel), List.mem_of_getElem? (i := 317) (by decide +kernel)⟩
theorem lw_p7 : lw_okq (⟨"StackPolicyKernel", "deadlineOf", "(I)I"⟩, 8) := ⟨⟨by decide +kernel, by decide +kernel⟩, List.mem_of_getElem? (i := 10) (by decide +kernel), List.mem_of_getElem? (i := 320) (by decide +kernel), List.mem_of_getElem? (i := 321) (by decide +kernel)⟩
theorem lw_p8 : lw_okq (⟨"StackPolicyKernel", "chooseRunner", "(I)I"⟩, 8) := ⟨⟨by decide +kernel, by decide +kernel⟩, List.mem_of_getElem? (i := 10) (by decide +kernel), List.mem_of_getElem? (i := 324) (by decide +kernel), List.mem_of_getElem? (i := 325) (by decide +kernel)⟩
theorem lw_p9 : lw_okq (⟨"StackPolicyKernel", "highestHeldCeiling", "()I"⟩, 8) := ⟨⟨by decide +kernel, by decide +kernel⟩, List.mem_of_getElem? (i := 10) (by decide +kernel), List.mem_of_getElem? (i := 332) (by decide +kernel), List.mem_of_getElem? (i := 333) (by decide +kernel)⟩
theorem lw_p10 : lw_okq (⟨"StackPolicyKernel", "runJob", "(I)V"⟩, 8) := ⟨⟨by decide +kernel, by decide +kernel⟩, List.mem_of_getElem? (i := 10) (by decide +kernel), List.mem_of_getElem? (i := 353) (by decide +kernel), List.mem_of_getElem? (i := 354) (by decide +kernel)⟩
theorem lw_p11 : lw_okq (⟨"StackPolicyKernel", "noteBlocked", "(I)V"⟩, 8) := ⟨⟨by decide +kernel, by decide +kernel⟩, List.mem_of_getElem? (i := 10) (by decide +kernel), List.mem_of_getElem? (i := 369) (by decide +kernel), List.mem_of_getElem? (i := 370) (by decide +kernel)⟩
theorem lw_p12 : lw_okq (⟨"StackPolicyKernel", "noteMisses", "()V"⟩, 8) := ⟨⟨by decide +kernel, by decide +kernel⟩, List.mem_of_getElem? (i := 10) (by decide +kernel), List.mem_of_getElem? (i := 385) (by decide +kernel), List.mem_of_getElem? (i := 386) (by decide +kernel)⟩
theorem lw_p13 : lw_okq (⟨"StackPolicyKernel", "placeInOrder", "(I)I"⟩, 8) := ⟨⟨by decide +kernel, by decide +kernel⟩, List.mem_of_getElem? (i := 10) (by decide +kernel), List.mem_of_getElem? (i := 402) (by decide +kernel), List.mem_of_getElem? (i := 403) (by decide +kernel)⟩
theorem lw_p14 : lw_okq (⟨"StackPolicyKernel", "begunPendingJobs", "()I"⟩, 8) := ⟨⟨by decide +kernel, by decide +kernel⟩, List.mem_of_getElem? (i := 10) (by decide +kernel), List.mem_of_getElem? (i := 450) (by decide +kernel), List.mem_of_getElem? (i := 451) (by decide +kernel)⟩
theorem lw_p15 : lw_okq (⟨"StackPolicyKernelModel", "isTask", "(I)Z"⟩, 35) := ⟨⟨by decide +kernel, by decide +kernel⟩, List.mem_of_getElem? (i := 454) (by decide +kernel), List.mem_of_getElem? (i := 577) (by decide +kernel), List.mem_of_getElem? (i := 578) (by decide +kernel)⟩
def lw_privs_1 : List (MethodName × Nat) := [(⟨"StackPolicyKernel", "isTask", "(I)Z"⟩, 8), (⟨"StackPolicyKernel", "passes", "(LStackPolicyKernel$Task;)Z"⟩, 8), (⟨"StackPolicyKernel", "longestHoldAgainst", "(LStackPolicyKernel$Task;)I"⟩, 8), (⟨"StackPolicyKernel", "makeTick", "()V"⟩, 8), (⟨"StackPolicyKernel", "firstInOrder", "()I"⟩, 8), (⟨"StackPolicyKernel", "isInOrder", "(I)Z"⟩, 8), (⟨"StackPolicyKernel", "comesBefore", "(II)Z"⟩, 8), (⟨"StackPolicyKernel", "deadlineOf", "(I)I"⟩, 8), (⟨"StackPolicyKernel", "chooseRunner", "(I)I"⟩, 8), (⟨"StackPolicyKernel", "highestHeldCeiling", "()I"⟩, 8), (⟨"StackPolicyKernel", "runJob", "(I)V"⟩, 8), (⟨"StackPolicyKernel", "noteBlocked", "(I)V"⟩, 8), (⟨"StackPolicyKernel", "noteMisses", "()V"⟩, 8), (⟨"StackPolicyKernel", "placeInOrder", "(I)I"⟩, 8), (⟨"StackPolicyKernel", "begunPendingJobs", "()I"⟩, 8), (⟨"StackPolicyKernelModel", "isTask", "(I)Z"⟩, 35)]
theorem lw_r1 : ∀ q ∈ lw_privs_1, lw_okq q := List.forall_mem_cons.mpr ⟨lw_p0, List.forall_mem_cons.mpr ⟨lw_p1, List.forall_mem_cons.mpr ⟨lw_p2, List.forall_mem_cons.mpr ⟨lw_p3, List.forall_mem_cons.mpr ⟨lw_p4, List.forall_mem_cons.mpr ⟨lw_p5, List.forall_mem_cons.mpr ⟨lw_p6, List.forall_mem_cons.mpr ⟨lw_p7, List.forall_mem_cons.mpr ⟨lw_p8, List.forall_mem_cons.mpr ⟨lw_p9, List.forall_mem_cons.mpr ⟨lw_p10, List.forall_mem_cons.mpr ⟨lw_p11, List.forall_mem_cons.mpr ⟨lw_p12, List.forall_mem_cons.mpr ⟨lw_p13, List.forall_mem_cons.mpr ⟨lw_p14, List.forall_mem_cons.mpr ⟨lw_p15, fun _ h => absurd h List.not_mem_nil⟩⟩⟩⟩⟩⟩⟩⟩⟩⟩⟩⟩⟩⟩⟩⟩
theorem lw_p16 : lw_okq (⟨"StackPolicyKernelModel", "level", "(I)I"⟩, 35) := ⟨⟨by decide +kernel, by decide +kernel⟩, List.mem_of_getElem? (i := 454) (by decide +kernel), List.mem_of_getElem? (i := 593) (by decide +kernel), List.mem_of_getElem? (i := 594) (by decide +kernel)⟩
theorem lw_p17 : lw_okq (⟨"StackPolicyKernelModel", "passes", "(I)Z"⟩, 35) := ⟨⟨by decide +kernel, by decide +kernel⟩, List.mem_of_getElem? (i := 454) (by decide +kernel), List.mem_of_getElem? (i := 601) (by decide +kernel), List.mem_of_getElem? (i := 602) (by decide +kernel)⟩
theorem lw_p18 : lw_okq (⟨"StackPolicyKernelModel", "overhang", "(I)I"⟩, 35) := ⟨⟨by decide +kernel, by decide +kernel⟩, List.mem_of_getElem? (i := 454) (by decide +kernel), List.mem_of_getElem? (i := 605) (by decide +kernel), List.mem_of_getElem? (i := 606) (by decide +kernel)⟩
theorem lw_p19 : lw_okq (⟨"StackPolicyKernelModel", "holds", "(II)Z"⟩, 35) := ⟨⟨by decide +kernel, by decide +kernel⟩, List.mem_of_getElem? (i := 454) (by decide +kernel), List.mem_of_getElem? (i := 622) (by decide +kernel), List.mem_of_getElem? (i := 623) (by decide +kernel)⟩
theorem lw_p20 : lw_okq (⟨"StackPolicyKernelModel", "tick", "()I"⟩, 35) := ⟨⟨by decide +kernel, by decide +kernel⟩, List.mem_of_getElem? (i := 454) (by decide +kernel), List.mem_of_getElem? (i := 635) (by decide +kernel), List.mem_of_getElem? (i := 636) (by decide +kernel)⟩
theorem lw_p21 : lw_okq (⟨"StackPolicyKernelModel", "choice", "()I"⟩, 35) := ⟨⟨by decide +kernel, by decide +kernel⟩, List.mem_of_getElem? (i := 454) (by decide +kernel), List.mem_of_getElem? (i := 639) (by decide +kernel), List.mem_of_getElem? (i := 640) (by decide +kernel)⟩
theorem lw_p22 : lw_okq (⟨"StackPolicyKernelModel", "inOrder", "(I)I"⟩, 35) := ⟨⟨by decide +kernel, by decide +kernel⟩, List.mem_of_getElem? (i := 454) (by decide +kernel), List.mem_of_getElem? (i := 643) (by decide +kernel), List.mem_of_getElem? (i := 644) (by decide +kernel)⟩
theorem lw_p23 : lw_okq (⟨"StackPolicyKernelModel", "there", "(I)Z"⟩, 35) := ⟨⟨by decide +kernel, by decide +kernel⟩, List.mem_of_getElem? (i := 454) (by decide +kernel), List.mem_of_getElem? (i := 647) (by decide +kernel), List.mem_of_getElem? (i := 648) (by decide +kernel)⟩
theorem lw_p24 : lw_okq (⟨"StackPolicyKernelModel", "earlier", "(II)Z"⟩, 35) := ⟨⟨by decide +kernel, by decide +kernel⟩, List.mem_of_getElem? (i := 454) (by decide +kernel), List.mem_of_getElem? (i := 651) (by decide +kernel), List.mem_of_getElem? (i := 652) (by decide +kernel)⟩
theorem lw_p25 : lw_okq (⟨"StackPolicyKernelModel", "deadline", "(I)I"⟩, 35) := ⟨⟨by decide +kernel, by decide +kernel⟩, List.mem_of_getElem? (i := 454) (by decide +kernel), List.mem_of_getElem? (i := 655) (by decide +kernel), List.mem_of_getElem? (i := 656) (by decide +kernel)⟩
theorem lw_p26 : lw_okq (⟨"StackPolicyKernelModel", "serve", "()I"⟩, 35) := ⟨⟨by decide +kernel, by decide +kernel⟩, List.mem_of_getElem? (i := 454) (by decide +kernel), List.mem_of_getElem? (i := 660) (by decide +kernel), List.mem_of_getElem? (i := 661) (by decide +kernel)⟩
theorem lw_p27 : lw_okq (⟨"StackPolicyKernelModel", "work", "(I)I"⟩, 35) := ⟨⟨by decide +kernel, by decide +kernel⟩, List.mem_of_getElem? (i := 454) (by decide +kernel), List.mem_of_getElem? (i := 664) (by decide +kernel), List.mem_of_getElem? (i := 665) (by decide +kernel)⟩
theorem lw_p28 : lw_okq (⟨"StackPolicyKernelModel", "holdsAny", "(I)Z"⟩, 35) := ⟨⟨by decide +kernel, by decide +kernel⟩, List.mem_of_getElem? (i := 454) (by decide +kernel), List.mem_of_getElem? (i := 668) (by decide +kernel), List.mem_of_getElem? (i := 669) (by decide +kernel)⟩
theorem lw_p29 : lw_okq (⟨"StackPolicyKernelModel", "stop", "(II)V"⟩, 35) := ⟨⟨by decide +kernel, by decide +kernel⟩, List.mem_of_getElem? (i := 454) (by decide +kernel), List.mem_of_getElem? (i := 672) (by decide +kernel), List.mem_of_getElem? (i := 673) (by decide +kernel)⟩
def lw_privs_2 : List (MethodName × Nat) := [(⟨"StackPolicyKernelModel", "level", "(I)I"⟩, 35), (⟨"StackPolicyKernelModel", "passes", "(I)Z"⟩, 35), (⟨"StackPolicyKernelModel", "overhang", "(I)I"⟩, 35), (⟨"StackPolicyKernelModel", "holds", "(II)Z"⟩, 35), (⟨"StackPolicyKernelModel", "tick", "()I"⟩, 35), (⟨"StackPolicyKernelModel", "choice", "()I"⟩, 35), (⟨"StackPolicyKernelModel", "inOrder", "(I)I"⟩, 35), (⟨"StackPolicyKernelModel", "there", "(I)Z"⟩, 35), (⟨"StackPolicyKernelModel", "earlier", "(II)Z"⟩, 35), (⟨"StackPolicyKernelModel", "deadline", "(I)I"⟩, 35), (⟨"StackPolicyKernelModel", "serve", "()I"⟩, 35), (⟨"StackPolicyKernelModel", "work", "(I)I"⟩, 35), (⟨"StackPolicyKernelModel", "holdsAny", "(I)Z"⟩, 35), (⟨"StackPolicyKernelModel", "stop", "(II)V"⟩, 35)]
theorem lw_r2 : ∀ q ∈ lw_privs_2, lw_okq q := List.forall_mem_cons.mpr ⟨lw_p16, List.forall_mem_cons.mpr ⟨lw_p17, List.forall_mem_cons.mpr ⟨lw_p18, List.forall_mem_cons.mpr ⟨lw_p19, List.forall_mem_cons.mpr ⟨lw_p20, List.forall_mem_cons.mpr ⟨lw_p21, List.forall_mem_cons.mpr ⟨lw_p22, List.forall_mem_cons.mpr ⟨lw_p23, List.forall_mem_cons.mpr ⟨lw_p24, List.forall_mem_cons.mpr ⟨lw_p25, List.forall_mem_cons.mpr ⟨lw_p26, List.forall_mem_cons.mpr ⟨lw_p27, List.forall_mem_cons.mpr ⟨lw_p28, List.forall_mem_cons.mpr ⟨lw_p29, fun _ h => absurd h List.not_mem_nil⟩⟩⟩⟩⟩⟩⟩⟩⟩⟩⟩⟩⟩⟩
def lw_privs : List (MethodName × Nat) := lw_privs_1 ++ (lw_privs_2)
def lw_tbl : List Cond := k2_sels lw_privs ++ tables_1
theorem lw_privs_ok : ∀ q ∈ lw_privs, lw_okq q := by
  show ∀ q ∈ lw_privs_1 ++ (lw_privs_2), lw_okq q
  exact List.forall_mem_append.mpr ⟨lw_r1, lw_r2⟩
end
section
/-! A machine of our own over abstract addresses. A cell: kind and length; its contents: a value by address and slot. Kinds: below 100 the classes by number; 100 an int array, 101 the script, 102 and 103 arrays of references. -/
abbrev mm_T : Type := Nat → Option (Nat × Nat)
abbrev mm_V : Type := Nat → Nat → Value
abbrev mm_M : Type := mm_T × mm_V × Nat × Nat
abbrev mm_R : Type := Option Value × mm_M
abbrev mm_E : Type := Instr × Nat × Nat × Nat
/-- table; locals of a method; field types; slots of a class; the address of the next making; what a method answers (0 nothing, 1 an int, 2 a boolean); class of the receiver -/
abbrev mm_G : Type := (Nat → Nat → Option mm_E) × (Nat → Nat) × (Nat → Nat → FieldType) × (Nat → Nat) × (Nat → Nat → List Value → mm_V → Nat) × (Nat → Nat) × (Nat → Nat)
abbrev mm_tb (G : mm_G) : Nat → Nat → Option mm_E := G.1
abbrev mm_mx (G : mm_G) : Nat → Nat := G.2.1
abbrev mm_ft (G : mm_G) : Nat → Nat → FieldType := G.2.2.1
abbrev mm_sl (G : mm_G) : Nat → Nat := G.2.2.2.1
abbrev mm_pk (G : mm_G) : Nat → Nat → List Value → mm_V → Nat := G.2.2.2.2.1
abbrev mm_rb (G : mm_G) : Nat → Nat := G.2.2.2.2.2.1
abbrev mm_rc (G : mm_G) : Nat → Nat := G.2.2.2.2.2.2
abbrev mm_F : Type := Nat → Nat → Nat → List Value → List Value → mm_M → Option mm_R
def mm_up (V : mm_V) (x k : Nat) (v : Value) : mm_V := fun y j => if y = x ∧ j = k then v else V y j
def mm_wr (g : mm_M) (x k : Nat) (v : Value) : mm_M := (g.1, mm_up g.2.1 x k v, g.2.2)
def mm_alT (T : mm_T) (x kd len : Nat) : mm_T := fun y => if y = x then some (kd, len) else T y
def mm_alV (V : mm_V) (x : Nat) (z : Nat → Value) : mm_V := fun y j => if y = x then z j else V y j
def mm_al (g : mm_M) (x kd len : Nat) (z : Nat → Value) : mm_M := (mm_alT g.1 x kd len, mm_alV g.2.1 x z, g.2.2.1 + 1, g.2.2.2 + len)
def mm_i1 (st : List Value) (k : Int32 → List Value → Option mm_R) : Option mm_R := match st with
  | .int x :: r => k x r
  | _ => none
def mm_i2 (st : List Value) (k : Int32 → Int32 → List Value → Option mm_R) : Option mm_R := match st with
  | .int y :: .int x :: r => k x y r
  | _ => none
def mm_l1 (st : List Value) (k : Int64 → List Value → Option mm_R) : Option mm_R := match st with
  | .long x :: r => k x r
  | _ => none
def mm_l2 (st : List Value) (k : Int64 → Int64 → List Value → Option mm_R) : Option mm_R := match st with
  | .long y :: .long x :: r => k x y r
  | _ => none
def mm_r1 (st : List Value) (k : Nat → List Value → Option mm_R) : Option mm_R := match st with
  | .ref x :: r => k x r
  | _ => none
def mm_vr (st : List Value) (k : Value → Nat → List Value → Option mm_R) : Option mm_R := match st with
  | v :: .ref x :: r => k v x r
  | _ => none
def mm_ir (st : List Value) (k : Int32 → Nat → List Value → Option mm_R) : Option mm_R := match st with
  | .int j :: .ref x :: r => k j x r
  | _ => none
def mm_iir (st : List Value) (k : Int32 → Int32 → Nat → List Value → Option mm_R) : Option mm_R := match st with
  | .int v :: .int j :: .ref x :: r => k v j x r
  | _ => none
def mm_rir (st : List Value) (k : Nat → Int32 → Nat → List Value → Option mm_R) : Option mm_R := match st with
  | .ref v :: .int j :: .ref x :: r => k v j x r
  | _ => none
def mm_v1 (st : List Value) (k : Value → List Value → Option mm_R) : Option mm_R := match st with
  | v :: r => k v r
  | _ => none
def mm_v2 (st : List Value) (k : Value → Value → List Value → Option mm_R) : Option mm_R := match st with
  | v :: w :: r => k v w r
  | _ => none
def mm_in (o : Option (Nat × Nat)) (lo hi : Nat) (j : Int32) : Bool := match o with
  | some (kd, len) => decide (lo ≤ kd ∧ kd ≤ hi ∧ 0 ≤ j ∧ j.toNatClampNeg < len)
  | none => false
def mm_ln (o : Option (Nat × Nat)) (k : Nat → Option mm_R) : Option mm_R := match o with
  | some (kd, len) => if 100 ≤ kd ∧ kd ≤ 103 then k len else none
  | none => none
def mm_ld (ls : List Value) (i : Nat) : Value := ls.getD i (.retAddr 0)
def mm_oi (v : Value) (k : Int32 → Option mm_R) : Option mm_R := match v with
  | .int x => k x
  | _ => none
def mm_or (v : Value) (k : Nat → Option mm_R) : Option mm_R := match v with
  | .ref x => k x
  | _ => none
def mm_ol (v : Value) (k : Int64 → Option mm_R) : Option mm_R := match v with
  | .long x => k x
  | _ => none
def mm_so (ls : List Value) (i n : Nat) : Bool := decide (i + n ≤ ls.length) && (decide (i = 0) || decide ((mm_ld ls (i - 1)).category = 1))
def mm_ar (v : Value) : Bool := match v with
  | .int _ => true
  | .ref _ => true
  | _ => false
def mm_c1 (v : Value) : Bool := decide (v.category = 1)
def mm_go (o : Option Int) (pc : Nat) (k : Nat → Option mm_R) : Option mm_R := match o with
  | some off => if 0 ≤ (pc : Int) + off then k ((pc : Int) + off).toNat else none
  | none => none
/-- a call: depth d, n values (the receiver among them) off the stack -/
def mm_cl (G : mm_G) (f : mm_F) (d μ pc μ' n : Nat) (ls st : List Value) (g : mm_M) : Option mm_R := match d with
  | 0 => none
  | d' + 1 => if n ≤ st.length ∧ (st.drop n).length ≤ 4 ∧ (st.take n).all mm_ar = true then
      match f d' μ' 0 ((st.take n).reverse ++ List.replicate (mm_mx G μ' - n) (.retAddr 0)) [] (g.1, g.2.1, 0, 0) with
      | some q => f (d' + 1) μ (pc + 3) ls (q.1.toList ++ st.drop n) (q.2.1, q.2.2.1, g.2.2.1 + q.2.2.2.1, g.2.2.2 + q.2.2.2.2)
      | none => none
    else none
/-- the receiver of a virtual call is of the class that the method is of -/
def mm_rv (G : mm_G) (μ' n : Nat) (st : List Value) (T : mm_T) : Bool := match st[n - 1]? with
  | some (.ref x) => decide (T x = some (mm_rc G μ', mm_sl G (mm_rc G μ')))
  | _ => false
def mm_rf (n : Nat) (st : List Value) : Bool := match st[n - 1]? with
  | some (.ref _) => true
  | _ => false
def mm_stp (G : mm_G) (f : mm_F) (d μ pc : Nat) (ls st : List Value) (g : mm_M) : Option mm_R := match mm_tb G μ pc with
  | none => none
  | some (ins, a, b, _) => match ins with
    | .iconst n => f d μ (pc + 1) ls (.int (Int32.ofInt n) :: st) g
    | .bipush n => f d μ (pc + 2) ls (.int (Int32.ofInt n) :: st) g
    | .sipush n => f d μ (pc + 3) ls (.int (Int32.ofInt n) :: st) g
    | .lconst n => f d μ (pc + 1) ls (.long (Int64.ofNat n) :: st) g
    | .iload i => mm_oi (mm_ld ls i) fun x => f d μ (pc + 2) ls (.int x :: st) g
    | .iload_n i => mm_oi (mm_ld ls i) fun x => f d μ (pc + 1) ls (.int x :: st) g
    | .aload i => mm_or (mm_ld ls i) fun x => f d μ (pc + 2) ls (.ref x :: st) g
    | .aload_n i => mm_or (mm_ld ls i) fun x => f d μ (pc + 1) ls (.ref x :: st) g
    | .lload i => mm_ol (mm_ld ls i) fun x => f d μ (pc + 2) ls (.long x :: st) g
    | .lload_n i => mm_ol (mm_ld ls i) fun x => f d μ (pc + 1) ls (.long x :: st) g
    | .istore i => mm_i1 st fun x r => if mm_so ls i 1 = true then f d μ (pc + 2) (ls.set i (.int x)) r g else none
    | .istore_n i => mm_i1 st fun x r => if mm_so ls i 1 = true then f d μ (pc + 1) (ls.set i (.int x)) r g else none
    | .astore i => mm_r1 st fun x r => if mm_so ls i 1 = true then f d μ (pc + 2) (ls.set i (.ref x)) r g else none
    | .astore_n i => mm_r1 st fun x r => if mm_so ls i 1 = true then f d μ (pc + 1) (ls.set i (.ref x)) r g else none
    | .lstore i => mm_l1 st fun x r => if mm_so ls i 2 = true then f d μ (pc + 2) ((ls.set i (.long x)).set (i + 1) (.retAddr 0)) r g else none
    | .lstore_n i => mm_l1 st fun x r => if mm_so ls i 2 = true then f d μ (pc + 1) ((ls.set i (.long x)).set (i + 1) (.retAddr 0)) r g else none
    | .iinc i n => mm_oi (mm_ld ls i) fun x => if mm_so ls i 1 = true then f d μ (pc + 3) (ls.set i (.int (x + Int32.ofInt n))) st g else none
    | .iadd => mm_i2 st fun x y r => f d μ (pc + 1) ls (.int (x + y) :: r) g
    | .isub => mm_i2 st fun x y r => f d μ (pc + 1) ls (.int (x - y) :: r) g
    | .imul => mm_i2 st fun x y r => f d μ (pc + 1) ls (.int (x * y) :: r) g
    | .iand => mm_i2 st fun x y r => f d μ (pc + 1) ls (.int (x &&& y) :: r) g
    | .i2l => mm_i1 st fun x r => f d μ (pc + 1) ls (.long x.toInt64 :: r) g
    | .ladd => mm_l2 st fun x y r => f d μ (pc + 1) ls (.long (x + y) :: r) g
    | .lsub => mm_l2 st fun x y r => f d μ (pc + 1) ls (.long (x - y) :: r) g
    | .lmul => mm_l2 st fun x y r => f d μ (pc + 1) ls (.long (x * y) :: r) g
    | .ldiv => mm_l2 st fun x y r => if y = 0 then none else f d μ (pc + 1) ls (.long (x / y) :: r) g
    | .lcmp => mm_l2 st fun x y r => f d μ (pc + 1) ls (.int (lg_cmp x y) :: r) g
    | .dup => mm_v1 st fun v r => if mm_c1 v = true then f d μ (pc + 1) ls (v :: v :: r) g else none
    | .dup2 => mm_v2 st fun v w r => if mm_c1 v = true ∧ mm_c1 w = true then f d μ (pc + 1) ls (v :: w :: v :: w :: r) g else none
    | .ifCond .eq _ => mm_i1 st fun x r => if x = 0 then f d μ a ls r g else f d μ (pc + 3) ls r g
    | .ifCond .ne _ => mm_i1 st fun x r => if ¬ x = 0 then f d μ a ls r g else f d μ (pc + 3) ls r g
    | .ifCond .lt _ => mm_i1 st fun x r => if x < 0 then f d μ a ls r g else f d μ (pc + 3) ls r g
    | .ifCond .ge _ => mm_i1 st fun x r => if 0 ≤ x then f d μ a ls r g else f d μ (pc + 3) ls r g
    | .ifCond .gt _ => mm_i1 st fun x r => if 0 < x then f d μ a ls r g else f d μ (pc + 3) ls r g
    | .ifCond .le _ => mm_i1 st fun x r => if x ≤ 0 then f d μ a ls r g else f d μ (pc + 3) ls r g
    | .if_icmp .eq _ => mm_i2 st fun x y r => if x = y then f d μ a ls r g else f d μ (pc + 3) ls r g
    | .if_icmp .ne _ => mm_i2 st fun x y r => if ¬ x = y then f d μ a ls r g else f d μ (pc + 3) ls r g
    | .if_icmp .lt _ => mm_i2 st fun x y r => if x < y then f d μ a ls r g else f d μ (pc + 3) ls r g
    | .if_icmp .ge _ => mm_i2 st fun x y r => if y ≤ x then f d μ a ls r g else f d μ (pc + 3) ls r g
    | .if_icmp .gt _ => mm_i2 st fun x y r => if y < x then f d μ a ls r g else f d μ (pc + 3) ls r g
    | .if_icmp .le _ => mm_i2 st fun x y r => if x ≤ y then f d μ a ls r g else f d μ (pc + 3) ls r g
    | .goto _ => f d μ a ls st g
    | .tableswitch dflt lo hi offs => mm_i1 st fun x r => mm_go (if x.toInt < lo ∨ hi < x.toInt then some dflt else offs[(x.toInt - lo).toNat]?) pc fun t => f d μ t ls r g
    | .getfield _ => mm_r1 st fun x r => if g.1 x = some (a, mm_sl G a) then f d μ (pc + 3) ls (g.2.1 x b :: r) g else none
    | .putfield _ => mm_vr st fun v x r => if g.1 x = some (a, mm_sl G a) ∧ fits (mm_ft G a b) v = true then f d μ (pc + 3) ls r (mm_wr g x b v) else none
    | .iaload => mm_ir st fun j x r => if mm_in (g.1 x) 100 101 j = true then f d μ (pc + 1) ls (g.2.1 x j.toNatClampNeg :: r) g else none
    | .aaload => mm_ir st fun j x r => if mm_in (g.1 x) 102 103 j = true then f d μ (pc + 1) ls (g.2.1 x j.toNatClampNeg :: r) g else none
    | .iastore => mm_iir st fun v j x r => if mm_in (g.1 x) 100 100 j = true then f d μ (pc + 1) ls r (mm_wr g x j.toNatClampNeg (.int v)) else none
    | .aastore => mm_rir st fun v j x r => if mm_in (g.1 x) a a j = true ∧ g.1 v = some (b, mm_sl G b) then f d μ (pc + 1) ls r (mm_wr g x j.toNatClampNeg (.ref v)) else none
    | .arraylength => mm_r1 st fun x r => mm_ln (g.1 x) fun len => f d μ (pc + 1) ls (.int (Int32.ofNat len) :: r) g
    | .new _ => if g.1 (mm_pk G μ pc ls g.2.1) = none then f d μ (pc + 3) ls (.ref (mm_pk G μ pc ls g.2.1) :: st) (mm_al g (mm_pk G μ pc ls g.2.1) a (mm_sl G a) fun k => defaultValue (mm_ft G a k)) else none
    | .newarray _ => mm_i1 st fun n r => if g.1 (mm_pk G μ pc ls g.2.1) = none ∧ 0 ≤ n ∧ n.toNatClampNeg ≤ 1000 then f d μ (pc + 2) ls (.ref (mm_pk G μ pc ls g.2.1) :: r) (mm_al g (mm_pk G μ pc ls g.2.1) 100 n.toNatClampNeg fun _ => .int 0) else none
    | .anewarray _ => mm_i1 st fun n r => if g.1 (mm_pk G μ pc ls g.2.1) = none ∧ 0 ≤ n ∧ n.toNatClampNeg ≤ 1000 then f d μ (pc + 3) ls (.ref (mm_pk G μ pc ls g.2.1) :: r) (mm_al g (mm_pk G μ pc ls g.2.1) a n.toNatClampNeg fun _ => .null) else none
    | .invokestatic _ => if a = 999 then (if d = 0 then none else mm_i2 st fun x y r => if r.length ≤ 4 then f d μ (pc + 3) ls (.int (if x < y then y else x) :: r) g else none) else mm_cl G f d μ pc a b ls st g
    | .invokevirtual _ => if mm_rv G a b st g.1 = true then mm_cl G f d μ pc a b ls st g else none
    | .invokespecial _ => if a = 998 then (if d = 0 then none else mm_r1 st fun _ r => if r.length ≤ 4 then f d μ (pc + 3) ls r g else none) else if mm_rf b st = true then mm_cl G f d μ pc a b ls st g else none
    | .ireturn => mm_i1 st fun x r => if r = [] ∧ (mm_rb G μ = 1 ∨ mm_rb G μ = 2 ∧ (x = 0 ∨ x = 1)) then some (some (.int x), g) else none
    | .return_ => if st = [] ∧ mm_rb G μ = 0 then some (none, g) else none
    | _ => none
def mm_run (G : mm_G) : Nat → mm_F
  | 0 => fun _ _ _ _ _ _ => none
  | n + 1 => mm_stp G (mm_run G n)
end
section
/-! What the machine of our own has to do with the heap: an address goes by φ to the heap's -/
/-- the program: tables; how many classes; the classes; the elements' class of an array kind; code, name and answer of a method; the words; how a method is called (0 static, 1 virtual, 2 a constructor, 3 a nest mate's private constructor) and with how many values; how many methods; the nest mates' links -/
abbrev mm_S : Type := mm_G × Nat × (Nat → vw_C) × (Nat → Nat) × (Nat → ByteArray) × (Nat → MethodName) × (Nat → Option FieldType) × List Cond × (Nat → Nat × Nat) × Nat × List Cond
abbrev mm_nc (S : mm_S) : Nat := S.2.1
abbrev mm_ck (S : mm_S) : Nat → vw_C := S.2.2.1
abbrev mm_ek (S : mm_S) : Nat → Nat := S.2.2.2.1
abbrev mm_mb (S : mm_S) : Nat → ByteArray := S.2.2.2.2.1
abbrev mm_mn (S : mm_S) : Nat → MethodName := S.2.2.2.2.2.1
abbrev mm_mr (S : mm_S) : Nat → Option FieldType := S.2.2.2.2.2.2.1
abbrev mm_AL (S : mm_S) : List Cond := S.2.2.2.2.2.2.2.1
abbrev mm_km (S : mm_S) : Nat → Nat × Nat := S.2.2.2.2.2.2.2.2.1
abbrev mm_nm (S : mm_S) : Nat := S.2.2.2.2.2.2.2.2.2.1
abbrev mm_NL (S : mm_S) : List Cond := S.2.2.2.2.2.2.2.2.2.2
/-- the start: class numbers and slots, array classes, the heap's size -/
abbrev mm_Y : Type := va_G × (Nat → ClassId) × Nat
def mm_cv (φ : Nat → Nat) (v : Value) : Value := match v with
  | .ref a => .ref (φ a)
  | w => w
def mm_lv (T : mm_T) (v : Value) : Prop := match v with
  | .ref a => T a ≠ none
  | _ => True
def mm_fu (φ : Nat → Nat) (x q : Nat) : Nat → Nat := fun y => if y = x then q else φ y
def mm_cell (Y : mm_Y) (U : State) (φ : Nat → Nat) (V : mm_V) (H : Heap) (x kd len : Nat) : Prop :=
  if kd < 100 then t_OB (φ x) (Y.1.1 kd) len (Y.1.2 kd) H (fun k => mm_cv φ (V x k))
  else if kd = 101 then ∃ scr : Cell, H[φ x]? = some scr ∧ U.isArrayOf scr .int ∧ scr.vm ≠ .unknown ∧ scr.slots.size = len ∧ ∀ j : Nat, j < len → scr.slots[j]? = some (mm_cv φ (V x j))
  else H[φ x]? = some (arrV (Y.2.1 kd) len (fun j => mm_cv φ (V x j)))
def mm_HR (Y : mm_Y) (U : State) (φ : Nat → Nat) (T : mm_T) (V : mm_V) (H : Heap) : Prop :=
  (∀ x kd len, T x = some (kd, len) → mm_cell Y U φ V H x kd len ∧ φ x < H.size ∧ (kd ≠ 101 → Y.2.2 ≤ φ x) ∧ ∀ k, k < len → mm_lv T (V x k)) ∧ ∀ x y, T x ≠ none → T y ≠ none → φ x = φ y → x = y
def mm_ext (φ : Nat → Nat) (T : mm_T) (φ' : Nat → Nat) (T' : mm_T) : Prop := ∀ x, T x ≠ none → T' x = T x ∧ φ' x = φ x
theorem mm_ext.rf {φ : Nat → Nat} {T : mm_T} : mm_ext φ T φ T := fun _ _ => ⟨rfl, rfl⟩
theorem mm_ext.trans {φ φ1 φ2 : Nat → Nat} {T T1 T2 : mm_T} (h : mm_ext φ T φ1 T1) (h2 : mm_ext φ1 T1 φ2 T2) : mm_ext φ T φ2 T2 := by
  intro x hx
  obtain ⟨a, b⟩ := h x hx
  obtain ⟨a2, b2⟩ := h2 x (by rw [a]; exact hx)
  exact ⟨a2.trans a, b2.trans b⟩
theorem mm_cv_ext {φ φ' : Nat → Nat} {T T' : mm_T} (h : mm_ext φ T φ' T') {v : Value} (hv : mm_lv T v) : mm_cv φ' v = mm_cv φ v := by
  cases v with
  | ref a => show Value.ref (φ' a) = Value.ref (φ a); rw [(h a hv).2]
  | _ => rfl
theorem mm_lv_ext {φ φ' : Nat → Nat} {T T' : mm_T} (h : mm_ext φ T φ' T') {v : Value} (hv : mm_lv T v) : mm_lv T' v := by
  cases v with
  | ref a => show T' a ≠ none; rw [(h a hv).1]; exact hv
  | _ => trivial
theorem mm_map_ext {φ φ' : Nat → Nat} {T T' : mm_T} (h : mm_ext φ T φ' T') {st : List Value} (hv : ∀ v ∈ st, mm_lv T v) : st.map (mm_cv φ') = st.map (mm_cv φ) :=
  List.map_congr_left fun v hm => mm_cv_ext h (hv v hm)
theorem mm_arrV_ext {cA : ClassId} {n : Nat} {f f' : Nat → Value} (h : ∀ j, j < n → f j = f' j) : arrV cA n f = arrV cA n f' := by
  unfold arrV
  congr 1
  congr 1
  funext j
  exact h j.val j.isLt
theorem mm_cell.kept {Y : mm_Y} {U : State} {φ φ' : Nat → Nat} {V V' : mm_V} {H H' : Heap} {x kd len : Nat} (h : mm_cell Y U φ V H x kd len) (hφ : φ' x = φ x) (hq : H'[φ x]? = H[φ x]?) (hv : ∀ k, k < len → mm_cv φ' (V' x k) = mm_cv φ (V x k)) : mm_cell Y U φ' V' H' x kd len := by
  unfold mm_cell at h ⊢
  rw [hφ]
  split
  · rename_i h0
    rw [if_pos h0] at h
    obtain ⟨cell, q, r1, r2, r3⟩ := h
    exact ⟨cell, by rw [hq]; exact q, r1, r2, fun k hk => (r3 k hk).trans (congrArg some (hv k hk).symm)⟩
  · rename_i h0
    rw [if_neg h0] at h
    split
    · rename_i h1
      rw [if_pos h1] at h
      obtain ⟨scr, q, r1, r2, r3, r4⟩ := h
      exact ⟨scr, by rw [hq]; exact q, r1, r2, r3, fun k hk => (r4 k hk).trans (congrArg some (hv k hk).symm)⟩
    · rename_i h1
      rw [if_neg h1] at h
      rw [hq, h]
      exact congrArg some (mm_arrV_ext fun j hj => (hv j hj).symm)
theorem mm_cell.moved {Y : mm_Y} {u U : State} {φ : Nat → Nat} {V : mm_V} {H : Heap} {x kd len : Nat} (hvm : u.vm.Alike U.vm) (h : mm_cell Y u φ V H x kd len) : mm_cell Y U φ V H x kd len := by
  unfold mm_cell at h ⊢
  split
  · rename_i h0
    rw [if_pos h0] at h
    exact h
  · rename_i h0
    rw [if_neg h0] at h
    split
    · rename_i h1
      rw [if_pos h1] at h
      obtain ⟨scr, q, r1, r2⟩ := h
      exact ⟨scr, q, State.isArrayOf_alike hvm r1, r2⟩
    · rename_i h1
      rw [if_neg h1] at h
      exact h
theorem mm_HR.moved {Y : mm_Y} {u U : State} {φ : Nat → Nat} {T : mm_T} {V : mm_V} {H : Heap} (hvm : u.vm.Alike U.vm) (h : mm_HR Y u φ T V H) : mm_HR Y U φ T V H :=
  ⟨fun x kd len hx => ⟨(h.1 x kd len hx).1.moved hvm, (h.1 x kd len hx).2⟩, h.2⟩
theorem mm_HR.put {Y : mm_Y} {U : State} {φ : Nat → Nat} {T : mm_T} {V : mm_V} {H H' : Heap} (h : mm_HR Y U φ T V H) {x kd len k : Nat} {v : Value} (hT : T x = some (kd, len)) (hv : mm_lv T v) (hsz : H'.size = H.size) (hoff : ∀ q, q ≠ φ x → H'[q]? = H[q]?)
    (hc : mm_cell Y U φ (mm_up V x k v) H' x kd len) : mm_HR Y U φ T (mm_up V x k v) H' := by
  refine ⟨fun y kd' len' hy => ?_, h.2⟩
  by_cases e : y = x
  · subst e
    cases hT.symm.trans hy
    obtain ⟨-, a2, a3, a4⟩ := h.1 y _ _ hT
    refine ⟨hc, by rw [hsz]; exact a2, a3, fun j hj => ?_⟩
    unfold mm_up
    split
    · exact hv
    · exact a4 j hj
  · obtain ⟨a1, a2, a3, a4⟩ := h.1 y _ _ hy
    have e1 : ∀ j, mm_up V x k v y j = V y j := fun j => by unfold mm_up; rw [if_neg (fun q => e q.1)]
    refine ⟨a1.kept rfl (hoff _ fun q => e (h.2 y x (by rw [hy]; exact fun z => by cases z) (by rw [hT]; exact fun z => by cases z) q)) (fun j _ => by rw [e1]), by rw [hsz]; exact a2, a3, fun j hj => by rw [e1]; exact a4 j hj⟩
theorem mm_new_ext {φ : Nat → Nat} {T : mm_T} {x q kd len : Nat} (hT : T x = none) : mm_ext φ T (mm_fu φ x q) (mm_alT T x kd len) := by
  intro y hy
  have e : y ≠ x := fun z => hy (by rw [z]; exact hT)
  exact ⟨by unfold mm_alT; rw [if_neg e], by unfold mm_fu; rw [if_neg e]⟩
theorem mm_HR.new {Y : mm_Y} {U : State} {φ : Nat → Nat} {T : mm_T} {V : mm_V} {H H' : Heap} (h : mm_HR Y U φ T V H) {x kd len : Nat} {z : Nat → Value} (hT : T x = none) (hsz : H'.size = H.size + 1) (hoff : ∀ q, q < H.size → H'[q]? = H[q]?) (hB : Y.2.2 ≤ H.size)
    (hz : ∀ k, mm_lv T (z k)) (hc : mm_cell Y U (mm_fu φ x H.size) (mm_alV V x z) H' x kd len) : mm_HR Y U (mm_fu φ x H.size) (mm_alT T x kd len) (mm_alV V x z) H' := by
  have hE : mm_ext φ T (mm_fu φ x H.size) (mm_alT T x kd len) := mm_new_ext hT
  have hnx : ∀ y, y ≠ x → mm_fu φ x H.size y = φ y := fun y e => by unfold mm_fu; rw [if_neg e]
  have hxx : mm_fu φ x H.size x = H.size := by unfold mm_fu; rw [if_pos rfl]
  have hTn : ∀ y, y ≠ x → mm_alT T x kd len y = T y := fun y e => by unfold mm_alT; rw [if_neg e]
  have hlt : ∀ y, T y ≠ none → φ y < H.size := by
    intro y hy
    cases hq : T y with
    | none => exact absurd hq hy
    | some q => exact (h.1 y q.1 q.2 hq).2.1
  refine ⟨fun y kd' len' hy => ?_, fun a b ha hb hab => ?_⟩
  · by_cases e : y = x
    · subst e
      have : mm_alT T y kd len y = some (kd, len) := by unfold mm_alT; rw [if_pos rfl]
      cases this.symm.trans hy
      refine ⟨hc, by rw [hxx, hsz]; omega, fun _ => by rw [hxx]; exact hB, fun j hj => ?_⟩
      have e1 : mm_alV V y z y j = z j := by unfold mm_alV; rw [if_pos rfl]
      rw [e1]
      exact mm_lv_ext hE (hz j)
    · rw [hTn y e] at hy
      obtain ⟨a1, a2, a3, a4⟩ := h.1 y _ _ hy
      have e1 : ∀ j, mm_alV V x z y j = V y j := fun j => by unfold mm_alV; rw [if_neg e]
      refine ⟨a1.kept (hnx y e) (hoff _ a2) (fun j hj => by rw [e1]; exact mm_cv_ext hE (a4 j hj)), by rw [hnx y e, hsz]; omega, by rw [hnx y e]; exact a3, fun j hj => by rw [e1]; exact mm_lv_ext hE (a4 j hj)⟩
  · by_cases ea : a = x
    · by_cases eb : b = x
      · rw [ea, eb]
      · rw [hTn b eb] at hb
        rw [ea, hxx, hnx b eb] at hab
        have := hlt b hb
        omega
    · rw [hTn a ea] at ha
      rw [hnx a ea] at hab
      by_cases eb : b = x
      · rw [eb, hxx] at hab
        have := hlt a ha
        omega
      · rw [hTn b eb] at hb
        rw [hnx b eb] at hab
        exact h.2 a b ha hb hab
/-! locals -/
def mm_nr (v : Value) : Bool := match v with
  | .retAddr _ => false
  | _ => true
def mm_LR (φ : Nat → Nat) (T : mm_T) (ls : List Value) (lsA : Array Slot) (nL : Nat) : Prop :=
  lsA.size = nL ∧ ls.length = nL ∧ lv_wf lsA ∧ (∀ (i : Nat) (v : Value), ls[i]? = some v → mm_nr v = true → lsA[i]? = some (Slot.val (mm_cv φ v))) ∧ ∀ v ∈ ls, mm_lv T v
theorem mm_LR.ext {φ φ' : Nat → Nat} {T T' : mm_T} {ls : List Value} {lsA : Array Slot} {nL : Nat} (h : mm_LR φ T ls lsA nL) (hE : mm_ext φ T φ' T') : mm_LR φ' T' ls lsA nL :=
  ⟨h.1, h.2.1, h.2.2.1, fun i v hi hn => by rw [mm_cv_ext hE (h.2.2.2.2 v (List.mem_of_getElem? hi))]; exact h.2.2.2.1 i v hi hn, fun v hv => mm_lv_ext hE (h.2.2.2.2 v hv)⟩
theorem mm_ld_some {ls : List Value} {i : Nat} {v : Value} (h : mm_ld ls i = v) (hn : mm_nr v = true) : ls[i]? = some v := by
  unfold mm_ld at h
  rw [List.getD_eq_getElem?_getD] at h
  cases hi : ls[i]? with
  | none => rw [hi] at h; rw [← h] at hn; cases hn
  | some w => rw [hi] at h; exact congrArg some h
theorem mm_LR.at {φ : Nat → Nat} {T : mm_T} {ls : List Value} {lsA : Array Slot} {nL i : Nat} {v : Value} (h : mm_LR φ T ls lsA nL) (hl : mm_ld ls i = v) (hn : mm_nr v = true) : lsA[i]? = some (.val (mm_cv φ v)) := h.2.2.2.1 i v (mm_ld_some hl hn) hn
/-- the locals as the kit lists them -/
def mm_as (φ : Nat → Nat) (ls : List Value) : List (Nat × Value) := (List.range ls.length).filterMap fun i => if mm_nr (mm_ld ls i) = true then some (i, mm_cv φ (mm_ld ls i)) else none
theorem mm_as_mem {φ : Nat → Nat} {ls : List Value} {i : Nat} {v : Value} (hi : ls[i]? = some v) (hn : mm_nr v = true) : (i, mm_cv φ v) ∈ mm_as φ ls := by
  have hl : i < ls.length := (List.getElem?_eq_some_iff.mp hi).1
  have hd : mm_ld ls i = v := by unfold mm_ld; rw [List.getD_eq_getElem?_getD, hi]; rfl
  exact List.mem_filterMap.mpr ⟨i, List.mem_range.mpr hl, by rw [hd, if_pos hn]⟩
theorem mm_LR.has {φ : Nat → Nat} {T : mm_T} {ls : List Value} {lsA : Array Slot} {nL : Nat} (h : mm_LR φ T ls lsA nL) : lv_has lsA nL (mm_as φ ls) := by
  refine ⟨h.1, h.2.2.1, fun q hq => ?_⟩
  obtain ⟨i, -, hi⟩ := List.mem_filterMap.mp hq
  split at hi
  · rename_i hn
    cases hi
    exact h.at rfl hn
  · cases hi
theorem mm_so_len {ls : List Value} {i n : Nat} (h : mm_so ls i n = true) : i + n ≤ ls.length := by
  unfold mm_so at h
  simp only [Bool.and_eq_true, decide_eq_true_eq] at h
  exact h.1
theorem mm_so_prev {ls : List Value} {i n j : Nat} {w : Value} (h : mm_so ls i n = true) (hj : ls[j]? = some w) (hji : j + 1 = i) : ¬ w.category = 2 := by
  unfold mm_so at h
  simp only [Bool.and_eq_true, Bool.or_eq_true, decide_eq_true_eq] at h
  have hd : mm_ld ls (i - 1) = w := by
    have : i - 1 = j := by omega
    rw [this]; unfold mm_ld; rw [List.getD_eq_getElem?_getD, hj]; rfl
  rw [hd] at h
  omega
theorem mm_cat {φ : Nat → Nat} {w : Value} : (mm_cv φ w).category = w.category := by cases w <;> rfl
theorem mm_LR.set1 {φ : Nat → Nat} {T : mm_T} {ls : List Value} {lsA ls' : Array Slot} {nL i : Nat} {v : Value} (h : mm_LR φ T ls lsA nL) (hs : mm_so ls i 1 = true) (hv : mm_lv T v)
    (h' : lv_has ls' nL ((i, mm_cv φ v) :: (mm_as φ ls).filter (fun q => !(q.1 == i) && !(q.1 + 1 == i && q.2.category == 2)))) : mm_LR φ T (ls.set i v) ls' nL := by
  refine ⟨h'.1, by rw [List.length_set]; exact h.2.1, h'.2.1, fun j w hj hn => ?_, fun w hw => ?_⟩
  · by_cases e : j = i
    · subst e
      rw [List.getElem?_set_self (by have := mm_so_len hs; omega)] at hj
      cases hj
      exact h'.2.2 _ List.mem_cons_self
    · rw [List.getElem?_set_ne (Ne.symm e)] at hj
      refine h'.2.2 (j, mm_cv φ w) (List.mem_cons_of_mem _ (List.mem_filter.mpr ⟨mm_as_mem hj hn, ?_⟩))
      simp only [Bool.and_eq_true, Bool.not_eq_true', beq_eq_false_iff_ne, ne_eq, Bool.and_eq_false_iff]
      refine ⟨e, ?_⟩
      by_cases e2 : j + 1 = i
      · exact Or.inr (by rw [mm_cat]; exact mm_so_prev hs hj e2)
      · exact Or.inl e2
  · rcases List.mem_or_eq_of_mem_set hw with h1 | h1
    · exact h.2.2.2.2 w h1
    · rw [h1]; exact hv
theorem mm_LR.set2 {φ : Nat → Nat} {T : mm_T} {ls : List Value} {lsA ls' : Array Slot} {nL i : Nat} {v : Value} (h : mm_LR φ T ls lsA nL) (hs : mm_so ls i 2 = true) (hv : mm_lv T v)
    (h' : lv_has ls' nL ((i, mm_cv φ v) :: (mm_as φ ls).filter (fun q => !(q.1 == i) && (!(q.1 == i + 1) && !(q.1 + 1 == i && q.2.category == 2))))) : mm_LR φ T ((ls.set i v).set (i + 1) (.retAddr 0)) ls' nL := by
  refine ⟨h'.1, by rw [List.length_set, List.length_set]; exact h.2.1, h'.2.1, fun j w hj hn => ?_, fun w hw => ?_⟩
  · by_cases e1 : j = i + 1
    · subst e1
      rw [List.getElem?_set_self (by have := mm_so_len hs; rw [List.length_set]; omega)] at hj
      cases hj
      cases hn
    · rw [List.getElem?_set_ne (Ne.symm e1)] at hj
      by_cases e : j = i
      · subst e
        rw [List.getElem?_set_self (by have := mm_so_len hs; omega)] at hj
        cases hj
        exact h'.2.2 _ List.mem_cons_self
      · rw [List.getElem?_set_ne (Ne.symm e)] at hj
        refine h'.2.2 (j, mm_cv φ w) (List.mem_cons_of_mem _ (List.mem_filter.mpr ⟨mm_as_mem hj hn, ?_⟩))
        simp only [Bool.and_eq_true, Bool.not_eq_true', beq_eq_false_iff_ne, ne_eq, Bool.and_eq_false_iff]
        refine ⟨e, e1, ?_⟩
        by_cases e2 : j + 1 = i
        · exact Or.inr (by rw [mm_cat]; exact mm_so_prev hs hj e2)
        · exact Or.inl e2
  · rcases List.mem_or_eq_of_mem_set hw with h1 | h1
    · rcases List.mem_or_eq_of_mem_set h1 with h2 | h2
      · exact h.2.2.2.2 w h2
      · rw [h2]; exact hv
    · rw [h1]; trivial
/-! the locals with which a method begins -/
theorem mm_args_mem : ∀ (vs : List Value) (k i : Nat) (v : Value), (∀ w ∈ vs, mm_ar w = true) → vs[i]? = some v → ∀ φ : Nat → Nat, (k + i, mm_cv φ v) ∈ lv_args k (vs.map (mm_cv φ))
  | [], k, i, v, _, h, _ => by simp at h
  | a :: vs, k, i, v, hc, h, φ => by
    have ha : ¬ (mm_cv φ a).category = 2 := by
      have := hc a List.mem_cons_self
      cases a <;> simp_all [mm_ar, mm_cv, Value.category]
    rw [List.map_cons, lv_args, if_neg ha]
    cases i with
    | zero =>
      simp only [List.getElem?_cons_zero, Option.some.injEq] at h
      subst h
      exact List.mem_cons_self
    | succ j =>
      rw [List.getElem?_cons_succ] at h
      have := mm_args_mem vs (k + 1) j v (fun w hw => hc w (List.mem_cons_of_mem _ hw)) h φ
      rw [show k + (j + 1) = k + 1 + j by omega]
      exact List.mem_cons_of_mem _ this
theorem mm_sl_len (φ : Nat → Nat) : ∀ vs : List Value, (∀ w ∈ vs, mm_ar w = true) → (lg_sl (vs.map (mm_cv φ))).length = vs.length
  | [], _ => rfl
  | a :: vs, hc => by
    have ha : ¬ (mm_cv φ a).category = 2 := by
      have := hc a List.mem_cons_self
      cases a <;> simp_all [mm_ar, mm_cv, Value.category]
    have ih := mm_sl_len φ vs (fun w hw => hc w (List.mem_cons_of_mem _ hw))
    unfold lg_sl at ih ⊢
    rw [List.map_cons, List.flatMap_cons, if_neg ha, List.length_append, ih]
    simp
    omega
theorem mm_LR.entry {φ : Nat → Nat} {T : mm_T} {vs : List Value} {n : Nat} (hc : ∀ w ∈ vs, mm_ar w = true) (hn : vs.length ≤ n) (hv : ∀ w ∈ vs, mm_lv T w) :
    mm_LR φ T (vs ++ List.replicate (n - vs.length) (.retAddr 0)) ((lg_sl (vs.map (mm_cv φ)) ++ List.replicate (n - (lg_sl (vs.map (mm_cv φ))).length) Slot.unset).toArray) n := by
  have h := lv_entry (vs.map (mm_cv φ)) (n := n) (by rw [mm_sl_len φ vs hc]; exact hn)
  refine ⟨h.1, by simp; omega, h.2.1, fun i v hi hr => ?_, fun v hm => ?_⟩
  · by_cases hl : i < vs.length
    · rw [List.getElem?_append_left hl] at hi
      have := mm_args_mem vs 0 i v hc hi φ
      rw [Nat.zero_add] at this
      exact h.2.2 _ this
    · rw [List.getElem?_append_right (by omega)] at hi
      have := List.mem_of_getElem? hi
      rw [List.mem_replicate] at this
      rw [this.2] at hr
      cases hr
  · rcases List.mem_append.mp hm with h1 | h1
    · exact hv v h1
    · rw [List.mem_replicate] at h1
      rw [h1.2]
      trivial
end
section
/-! What the program's tables must keep to, and that the machine of our own then tells what the Java machine does -/
def mm_CK (S : mm_S) (Y : mm_Y) (U : State) : Prop :=
  (∀ ci, ci < mm_nc S → u_Kn U (mm_ck S ci).1 (mm_ck S ci).2.1 (mm_sl S.1 ci) (Y.1.1 ci) (Y.1.2 ci)) ∧ (ArrOfT U (Y.2.1 100) .int ∧ va_RA U (Y.2.1 100) .int) ∧
  ∀ kd, (kd = 102 ∨ kd = 103) → ArrOfT U (Y.2.1 kd) (.object (mm_ck S (mm_ek S kd)).1) ∧ va_RA U (Y.2.1 kd) (.object (mm_ck S (mm_ek S kd)).1) ∧ va_AO (mm_ck S (mm_ek S kd)).1 U
theorem mm_CK.moved {S : mm_S} {Y : mm_Y} {u U : State} (hvm : u.vm.Alike U.vm) (h : mm_CK S Y u) : mm_CK S Y U :=
  ⟨fun ci hc => u_Kn_moved hvm (h.1 ci hc), ⟨arrOfT_moved hvm h.2.1.1, h.2.1.2.moved hvm⟩, fun kd hk => ⟨arrOfT_moved hvm (h.2.2 kd hk).1, (h.2.2 kd hk).2.1.moved hvm, (h.2.2 kd hk).2.2.moved hvm⟩⟩
def mm_NK (S : mm_S) (U : State) : Prop := ∀ w ∈ mm_NL S, va_Nw w U
def mm_NG (S : mm_S) : Prop := ∀ w ∈ mm_NL S, ∃ (a : String) (i : Nat) (x : MethodName) (h : String), w = Cond.methodLinkNest a i x h
theorem mm_NK.warm {S : mm_S} {s U : State} (hn : mm_NG S) (hW : s.WarmedH U.vm) (h : mm_NK S s) : mm_NK S U := by
  intro w hw
  have h1 := h w hw
  obtain ⟨a, i, x, q, rfl⟩ := hn w hw
  exact va_Nw.warmM hW h1
theorem mm_NK.same {S : mm_S} {s U : State} (hn : mm_NG S) (hW : s.vm = U.vm) (h : mm_NK S s) : mm_NK S U := by
  intro w hw
  have h1 := h w hw
  obtain ⟨a, i, x, q, rfl⟩ := hn w hw
  exact va_Nw.same rfl hW h1
def mm_dc (S : mm_S) (μ pc : Nat) (ins : Instr) (n : Nat) : Bool := decide (decode (mm_mb S μ) pc = .ok (ins, n))
def mm_fd (S : mm_S) (μ a b w i : Nat) : Bool := decide (a < mm_nc S) && (decide (b < mm_sl S.1 a) && decide ((mm_AL S)[w]? = some (Jvm.Cond.fieldLink (mm_mn S μ).cls i ((mm_ck S a).2.1 b).1 ((mm_ck S a).2.1 b).2.1 ((mm_ck S a).2.1 b).2.2.1)))
def mm_ml (S : mm_S) (μ a b w i k : Nat) : Bool := decide (a < mm_nm S) && (decide (mm_km S a = (k, b)) && decide ((mm_AL S)[w]? = some (Jvm.Cond.methodLink (mm_mn S μ).cls i (mm_mn S a))))
def mm_mn3 (S : mm_S) (μ a b w i : Nat) : Bool := decide (a < mm_nm S) && (decide (mm_km S a = (3, b)) && decide ((mm_NL S)[w]? = some (Jvm.Cond.methodLinkNest (mm_mn S μ).cls i (mm_mn S a) "StackPolicyKernel")))
def mm_ok (S : mm_S) (μ pc : Nat) (e : mm_E) : Bool := match e with
  | (ins, a, b, w) => match ins with
    | .bipush n => mm_dc S μ pc (.bipush n) 2 && decide ((Int8.ofInt n).toInt32 = Int32.ofInt n)
    | .sipush n => mm_dc S μ pc (.sipush n) 3 && decide ((Int16.ofInt n).toInt32 = Int32.ofInt n)
    | .iload i => mm_dc S μ pc (.iload i) 2
    | .aload i => mm_dc S μ pc (.aload i) 2
    | .lload i => mm_dc S μ pc (.lload i) 2
    | .istore i => mm_dc S μ pc (.istore i) 2
    | .astore i => mm_dc S μ pc (.astore i) 2
    | .lstore i => mm_dc S μ pc (.lstore i) 2
    | .iinc i n => mm_dc S μ pc (.iinc i n) 3
    | .goto o => mm_dc S μ pc (.goto o) 3 && decide ((pc : Int) + o = (a : Int))
    | .ifCond q o => mm_dc S μ pc (.ifCond q o) 3 && decide ((pc : Int) + o = (a : Int))
    | .if_icmp q o => mm_dc S μ pc (.if_icmp q o) 3 && decide ((pc : Int) + o = (a : Int))
    | .tableswitch x y z o => mm_dc S μ pc (.tableswitch x y z o) b
    | .getfield i => mm_dc S μ pc (.getfield i) 3 && mm_fd S μ a b w i
    | .putfield i => mm_dc S μ pc (.putfield i) 3 && (mm_fd S μ a b w i && (decide (((mm_ck S a).2.1 b).2.2.2 = false) || (decide (((mm_ck S a).2.1 b).2.2.2 = true) && (decide ((mm_mn S μ).name = "<init>") && decide (((mm_ck S a).2.1 b).1 = (mm_mn S μ).cls)))))
    | .new i => mm_dc S μ pc (.new i) 3 && (decide (a < mm_nc S) && decide ((mm_AL S)[w]? = some (Jvm.Cond.classLink (mm_mn S μ).cls i (mm_ck S a).1)))
    | .newarray t => mm_dc S μ pc (.newarray t) 2 && decide (t = .int)
    | .anewarray i => mm_dc S μ pc (.anewarray i) 3 && ((decide (a = 102) || decide (a = 103)) && decide ((mm_AL S)[w]? = some (Jvm.Cond.classLink (mm_mn S μ).cls i (mm_ck S (mm_ek S a)).1)))
    | .aastore => mm_dc S μ pc .aastore 1 && ((decide (a = 102) || decide (a = 103)) && (decide (b = mm_ek S a) && decide (b < mm_nc S)))
    | .invokestatic i => mm_dc S μ pc (.invokestatic i) 3 && (if a = 999 then decide ((mm_AL S)[w]? = some (Jvm.Cond.methodLink (mm_mn S μ).cls i Lib.Math.max.name)) else mm_ml S μ a b w i 0)
    | .invokevirtual i => mm_dc S μ pc (.invokevirtual i) 3 && mm_ml S μ a b w i 1
    | .invokespecial i => mm_dc S μ pc (.invokespecial i) 3 && (if a = 998 then decide ((mm_AL S)[w]? = some (Jvm.Cond.methodLink (mm_mn S μ).cls i Lib.objectInit)) else if (mm_km S a).1 = 3 then mm_mn3 S μ a b w i else mm_ml S μ a b w i 2)
    | i => mm_dc S μ pc i 1
def mm_mok (S : mm_S) (μ : Nat) : Prop :=
  (plainName (mm_mn S μ).cls = true ∧ Cond.code (mm_mn S μ) (mm_mb S μ) (mm_mx S.1 μ) (mm_mr S μ) ∈ mm_AL S ∧ Cond.initialized (mm_mn S μ).cls ∈ mm_AL S ∧ (mm_mn S μ).cls ≠ "java/lang/invoke/MethodHandle" ∧ (mm_mn S μ).cls ≠ "java/lang/invoke/VarHandle") ∧
  (mm_mx S.1 μ ≤ 8 ∧ (mm_km S μ).2 ≤ mm_mx S.1 μ) ∧ ((mm_rb S.1 μ = 0 ∧ mm_mr S μ = none) ∨ (mm_rb S.1 μ = 1 ∧ mm_mr S μ = some .int) ∨ (mm_rb S.1 μ = 2 ∧ mm_mr S μ = some .boolean)) ∧
  (((mm_km S μ).1 = 0 ∧ (parseMethodDescriptor (mm_mn S μ).desc).map (fun d => d.parameters.length) = some (mm_km S μ).2 ∧ Cond.static (mm_mn S μ) ∈ mm_AL S) ∨
   ((mm_km S μ).1 = 1 ∧ (parseMethodDescriptor (mm_mn S μ).desc).map (fun d => d.parameters.length + 1) = some (mm_km S μ).2 ∧ Cond.instanceMethod (mm_mn S μ) ∈ mm_AL S ∧ Cond.selects (mm_mn S μ).cls (mm_mn S μ) (mm_mn S μ) ∈ mm_AL S ∧ mm_rc S.1 μ < mm_nc S ∧ (mm_ck S (mm_rc S.1 μ)).1 = (mm_mn S μ).cls) ∨
   (((mm_km S μ).1 = 2 ∨ (mm_km S μ).1 = 3) ∧ (parseMethodDescriptor (mm_mn S μ).desc).map (fun d => d.parameters.length + 1) = some (mm_km S μ).2 ∧ Cond.instanceMethod (mm_mn S μ) ∈ mm_AL S ∧ (mm_mn S μ).name = "<init>"  ∧ mm_mr S μ = none))
def mm_pt (ty : FieldType) : Bool := match ty with
  | .int => true
  | .boolean => true
  | .object _ => true
  | .array _ => true
  | _ => false
def mm_cok (S : mm_S) (ci : Nat) : Prop :=
  (∀ w ∈ u_ws (mm_ck S ci).1 (mm_ck S ci).2.1 (mm_sl S.1 ci), w ∈ mm_AL S) ∧ Cond.instantiable (mm_ck S ci).1 (mm_sl S.1 ci) ∈ mm_AL S ∧ Cond.initialized (mm_ck S ci).1 ∈ mm_AL S ∧
  (∀ k, k < mm_sl S.1 ci → parseFieldDescriptor ((mm_ck S ci).2.1 k).2.2.1 = some (mm_ft S.1 ci k)) ∧ (∀ a, a < mm_sl S.1 ci → ∀ b, b < mm_sl S.1 ci → a ≠ b → ((mm_ck S ci).2.1 a).2.1 ≠ ((mm_ck S ci).2.1 b).2.1) ∧ ∀ k, k < mm_sl S.1 ci → mm_pt (mm_ft S.1 ci k) = true
def mm_Good (S : mm_S) : Prop :=
  (∀ μ pc e, mm_tb S.1 μ pc = some e → mm_ok S μ pc e = true) ∧ (∀ w ∈ mm_AL S, (w.onTables && w.keeps) = true ∨ ∃ ty, w = .arrayClass ty) ∧ (mm_nc S ≤ 100 ∧ ∀ ci, ci < mm_nc S → mm_cok S ci) ∧ ((∀ μ, μ < mm_nm S → mm_mok S μ) ∧ mm_NG S) ∧
  Cond.arrayClass .int ∈ mm_AL S ∧ (Cond.instanceMethod Lib.objectInit ∈ mm_AL S ∧ Cond.code Lib.objectInit ⟨#[0xb1]⟩ 1 none ∈ mm_AL S) ∧
  Cond.static Lib.Math.max.name ∈ mm_AL S ∧ Cond.initialized "java/lang/Math" ∈ mm_AL S ∧ Cond.code Lib.Math.max.name Lib.Math.max.code 2 (some .int) ∈ mm_AL S
def mm_Fix (S : mm_S) (Y : mm_Y) (p : Program) (R : Room) (s : State) (m : MethodId) (args : Array Value) (meth : Method) (c : Code) (μ d : Nat) : Prop :=
  p.tables.exec = Jvm.exec ∧ c.code = mm_mb S μ ∧ c.maxLocals = mm_mx S.1 μ ∧ s.vm.findClass (mm_mn S μ).cls = some m.cls ∧ (∀ w ∈ mm_AL S, w.before args s = true) ∧ meth.name = (mm_mn S μ).name ∧ mm_CK S Y s ∧ (d ≤ R.frames ∧ mm_NK S s) ∧ 27 * d ≤ R.locals
def mm_Ret (S : mm_S) (Y : mm_Y) (p : Program) (l : Launch) (e : Env) (R : Room) (s : State) (m : MethodId) (args : Array Value) (below : List Frame) (meth : Method) (c : Code) (Q : State → Prop) (μ : Nat) (φ : Nat → Nat) (T : mm_T) (r : mm_R) : Prop :=
  ∀ (φ' : Nat → Nat) (H' : Heap) (locs' : List Loc) (pcR : Nat) (lsR : Array Slot), mm_HR Y s φ' r.2.1 r.2.2.1 H' → Y.2.2 ≤ H'.size → (∀ q ∈ locs', Y.2.2 ≤ q.base) → mm_ext φ T φ' r.2.1 →
    (∀ x, r.1 = some (.int x) → (mm_rb S.1 μ = 1 ∨ mm_rb S.1 μ = 2 ∧ (x = 0 ∨ x = 1)) → decode (mm_mb S μ) pcR = .ok (.ireturn, 1) → W p l e R s m args below meth c H' locs' r.2.2.2.1 r.2.2.2.2 Q (F0 m pcR lsR [.int x])) ∧
    (r.1 = none → mm_rb S.1 μ = 0 → decode (mm_mb S μ) pcR = .ok (.return_, 1) → W p l e R s m args below meth c H' locs' r.2.2.2.1 r.2.2.2.2 Q (F0 m pcR lsR []))
theorem mm_Ret.ext {S : mm_S} {Y : mm_Y} {p : Program} {l : Launch} {e : Env} {R : Room} {s : State} {m : MethodId} {args : Array Value} {below : List Frame} {meth : Method} {c : Code} {Q : State → Prop} {μ : Nat} {φ φ1 : Nat → Nat} {T T1 : mm_T} {r : mm_R} (h : mm_Ret S Y p l e R s m args below meth c Q μ φ T r) (hE : mm_ext φ T φ1 T1) : mm_Ret S Y p l e R s m args below meth c Q μ φ1 T1 r :=
  fun φ' H' locs' pcR lsR h1 h2 h3 h4 => h φ' H' locs' pcR lsR h1 h2 h3 (hE.trans h4)
def mm_Now (S : mm_S) (Y : mm_Y) (p : Program) (l : Launch) (e : Env) (R : Room) (s : State) (m : MethodId) (args : Array Value) (below : List Frame) (meth : Method) (c : Code) (Q : State → Prop) (d μ pc : Nat) (ls st : List Value) (g : mm_M) (r : mm_R) : Prop :=
  mm_Fix S Y p R s m args meth c μ d → r.2.2.2.1 ≤ R.cells → r.2.2.2.2 ≤ R.slots → ∀ (H : Heap) (locs : List Loc) (lsA : Array Slot) (φ : Nat → Nat), mm_HR Y s φ g.1 g.2.1 H → Y.2.2 ≤ H.size → (∀ q ∈ locs, Y.2.2 ≤ q.base) → mm_LR φ g.1 ls lsA (mm_mx S.1 μ) → (∀ v ∈ st, mm_lv g.1 v) →
    mm_Ret S Y p l e R s m args below meth c Q μ φ g.1 r → W p l e R s m args below meth c H locs g.2.2.1 g.2.2.2 Q (F0 m pc lsA (st.map (mm_cv φ)))
def mm_Con (S : mm_S) (Y : mm_Y) (d μ pc : Nat) (ls st : List Value) (g : mm_M) (r : mm_R) : Prop :=
  ((g.2.2.1 ≤ r.2.2.2.1 ∧ g.2.2.2 ≤ r.2.2.2.2) ∧ (r.1 = none ∨ ∃ x, r.1 = some (.int x))) ∧ ∀ (p : Program) (l : Launch) (e : Env) (R : Room) (s : State) (m : MethodId) (args : Array Value) (below : List Frame) (meth : Method) (c : Code) (Q : State → Prop), mm_Now S Y p l e R s m args below meth c Q d μ pc ls st g r
def mm_IH (S : mm_S) (Y : mm_Y) (n : Nat) : Prop := ∀ d μ pc ls st g r, mm_run S.1 n d μ pc ls st g = some r → mm_Con S Y d μ pc ls st g r
theorem mm_one {S : mm_S} {Y : mm_Y} {n d μ pc pc' : Nat} {ls st ls' st' : List Value} {g g' : mm_M} {r : mm_R} (ih : mm_IH S Y n) (hk : mm_run S.1 n d μ pc' ls' st' g' = some r) (h1 : g.2.2.1 ≤ g'.2.2.1) (h2 : g.2.2.2 ≤ g'.2.2.2)
    (hstep : ∀ (p : Program) (l : Launch) (e : Env) (R : Room) (s : State) (m : MethodId) (args : Array Value) (below : List Frame) (meth : Method) (c : Code) (Q : State → Prop), g'.2.2.1 ≤ r.2.2.2.1 → g'.2.2.2 ≤ r.2.2.2.2 → mm_Now S Y p l e R s m args below meth c Q d μ pc' ls' st' g' r → mm_Now S Y p l e R s m args below meth c Q d μ pc ls st g r) : mm_Con S Y d μ pc ls st g r := by
  obtain ⟨⟨⟨a1, a2⟩, a3⟩, a4⟩ := ih _ _ _ _ _ _ _ hk
  exact ⟨⟨⟨Nat.le_trans h1 a1, Nat.le_trans h2 a2⟩, a3⟩, fun p l e R s m args below meth c Q => hstep p l e R s m args below meth c Q a1 a2 (a4 p l e R s m args below meth c Q)⟩
theorem mm_i1_some {st : List Value} {k : Int32 → List Value → Option mm_R} {r : mm_R} (h : mm_i1 st k = some r) : ∃ x t, st = .int x :: t ∧ k x t = some r := by
  unfold mm_i1 at h
  split at h
  · exact ⟨_, _, rfl, h⟩
  · cases h
theorem mm_i2_some {st : List Value} {k : Int32 → Int32 → List Value → Option mm_R} {r : mm_R} (h : mm_i2 st k = some r) : ∃ x y t, st = .int y :: .int x :: t ∧ k x y t = some r := by
  unfold mm_i2 at h
  split at h
  · exact ⟨_, _, _, rfl, h⟩
  · cases h
theorem mm_l1_some {st : List Value} {k : Int64 → List Value → Option mm_R} {r : mm_R} (h : mm_l1 st k = some r) : ∃ x t, st = .long x :: t ∧ k x t = some r := by
  unfold mm_l1 at h
  split at h
  · exact ⟨_, _, rfl, h⟩
  · cases h
theorem mm_l2_some {st : List Value} {k : Int64 → Int64 → List Value → Option mm_R} {r : mm_R} (h : mm_l2 st k = some r) : ∃ x y t, st = .long y :: .long x :: t ∧ k x y t = some r := by
  unfold mm_l2 at h
  split at h
  · exact ⟨_, _, _, rfl, h⟩
  · cases h
theorem mm_r1_some {st : List Value} {k : Nat → List Value → Option mm_R} {r : mm_R} (h : mm_r1 st k = some r) : ∃ x t, st = .ref x :: t ∧ k x t = some r := by
  unfold mm_r1 at h
  split at h
  · exact ⟨_, _, rfl, h⟩
  · cases h
theorem mm_vr_some {st : List Value} {k : Value → Nat → List Value → Option mm_R} {r : mm_R} (h : mm_vr st k = some r) : ∃ v x t, st = v :: .ref x :: t ∧ k v x t = some r := by
  unfold mm_vr at h
  split at h
  · exact ⟨_, _, _, rfl, h⟩
  · cases h
theorem mm_ir_some {st : List Value} {k : Int32 → Nat → List Value → Option mm_R} {r : mm_R} (h : mm_ir st k = some r) : ∃ j x t, st = .int j :: .ref x :: t ∧ k j x t = some r := by
  unfold mm_ir at h
  split at h
  · exact ⟨_, _, _, rfl, h⟩
  · cases h
theorem mm_iir_some {st : List Value} {k : Int32 → Int32 → Nat → List Value → Option mm_R} {r : mm_R} (h : mm_iir st k = some r) : ∃ v j x t, st = .int v :: .int j :: .ref x :: t ∧ k v j x t = some r := by
  unfold mm_iir at h
  split at h
  · exact ⟨_, _, _, _, rfl, h⟩
  · cases h
theorem mm_rir_some {st : List Value} {k : Nat → Int32 → Nat → List Value → Option mm_R} {r : mm_R} (h : mm_rir st k = some r) : ∃ v j x t, st = .ref v :: .int j :: .ref x :: t ∧ k v j x t = some r := by
  unfold mm_rir at h
  split at h
  · exact ⟨_, _, _, _, rfl, h⟩
  · cases h
theorem mm_v1_some {st : List Value} {k : Value → List Value → Option mm_R} {r : mm_R} (h : mm_v1 st k = some r) : ∃ v t, st = v :: t ∧ k v t = some r := by
  unfold mm_v1 at h
  split at h
  · exact ⟨_, _, rfl, h⟩
  · cases h
theorem mm_v2_some {st : List Value} {k : Value → Value → List Value → Option mm_R} {r : mm_R} (h : mm_v2 st k = some r) : ∃ v w t, st = v :: w :: t ∧ k v w t = some r := by
  unfold mm_v2 at h
  split at h
  · exact ⟨_, _, _, rfl, h⟩
  · cases h
theorem mm_oi_some {v : Value} {k : Int32 → Option mm_R} {r : mm_R} (h : mm_oi v k = some r) : ∃ x, v = .int x ∧ k x = some r := by
  unfold mm_oi at h
  split at h
  · exact ⟨_, rfl, h⟩
  · cases h
theorem mm_or_some {v : Value} {k : Nat → Option mm_R} {r : mm_R} (h : mm_or v k = some r) : ∃ x, v = .ref x ∧ k x = some r := by
  unfold mm_or at h
  split at h
  · exact ⟨_, rfl, h⟩
  · cases h
theorem mm_ol_some {v : Value} {k : Int64 → Option mm_R} {r : mm_R} (h : mm_ol v k = some r) : ∃ x, v = .long x ∧ k x = some r := by
  unfold mm_ol at h
  split at h
  · exact ⟨_, rfl, h⟩
  · cases h
theorem mm_in_some {o : Option (Nat × Nat)} {lo hi : Nat} {j : Int32} (h : mm_in o lo hi j = true) : ∃ kd len, o = some (kd, len) ∧ lo ≤ kd ∧ kd ≤ hi ∧ ¬ j < 0 ∧ j.toNatClampNeg < len := by
  unfold mm_in at h
  split at h
  · obtain ⟨h1, h2, h3, h4⟩ := of_decide_eq_true h
    exact ⟨_, _, rfl, h1, h2, Int32.not_lt.mpr h3, h4⟩
  · cases h
theorem mm_ln_some {o : Option (Nat × Nat)} {k : Nat → Option mm_R} {r : mm_R} (h : mm_ln o k = some r) : ∃ kd len, o = some (kd, len) ∧ 100 ≤ kd ∧ kd ≤ 103 ∧ k len = some r := by
  unfold mm_ln at h
  split at h
  · split at h
    · rename_i h1
      exact ⟨_, _, rfl, h1.1, h1.2, h⟩
    · cases h
  · cases h
theorem mm_go_some {o : Option Int} {pc : Nat} {k : Nat → Option mm_R} {r : mm_R} (h : mm_go o pc k = some r) : ∃ (off : Int) (t : Nat), o = some off ∧ (pc : Int) + off = (t : Int) ∧ k t = some r := by
  unfold mm_go at h
  split at h
  · split at h
    · rename_i h1
      exact ⟨_, _, rfl, (Int.toNat_of_nonneg h1).symm, h⟩
    · cases h
  · cases h
theorem mm_if_some {c : Prop} {a : Option mm_R} {r : mm_R} {i : Decidable c} (h : @ite _ c i a none = some r) : c ∧ a = some r := by
  by_cases hc : c
  · rw [if_pos hc] at h
    exact ⟨hc, h⟩
  · rw [if_neg hc] at h
    cases h
theorem mm_if_none {c : Prop} {a : Option mm_R} {r : mm_R} {i : Decidable c} (h : @ite _ c i none a = some r) : ¬ c ∧ a = some r := by
  by_cases hc : c
  · rw [if_pos hc] at h
    cases h
  · rw [if_neg hc] at h
    exact ⟨hc, h⟩
theorem mm_cc {T : mm_T} {v : Value} {l : List Value} (hv : mm_lv T v) (h : ∀ w ∈ l, mm_lv T w) : ∀ w ∈ v :: l, mm_lv T w := List.forall_mem_cons.mpr ⟨hv, h⟩
theorem mm_t1 {T : mm_T} {v : Value} {l : List Value} (h : ∀ w ∈ v :: l, mm_lv T w) : ∀ w ∈ l, mm_lv T w := (List.forall_mem_cons.mp h).2
theorem mm_h1 {T : mm_T} {v : Value} {l : List Value} (h : ∀ w ∈ v :: l, mm_lv T w) : mm_lv T v := (List.forall_mem_cons.mp h).1
theorem mm_catsum : ∀ l : List Value, (l.map fun v => v.category).sum ≤ 2 * l.length
  | [] => Nat.le_refl _
  | v :: l => by
    have := mm_catsum l
    have h2 : v.category ≤ 2 := by rcases lv_cat v with h | h <;> omega
    rw [List.map_cons, List.sum_cons, List.length_cons]
    omega
theorem mm_cv_def (φ : Nat → Nat) (ty : FieldType) : mm_cv φ (defaultValue ty) = defaultValue ty := by cases ty <;> rfl
theorem mm_lv_def (T : mm_T) (ty : FieldType) : mm_lv T (defaultValue ty) := by cases ty <;> trivial
theorem mm_fits_nar {ty : FieldType} {v : Value} (h : fits ty v = true) (hn : mm_pt ty = true) : narrow ty v = v := by
  cases ty with
  | boolean =>
    cases v with
    | int x =>
      simp only [fits, Bool.or_eq_true, beq_iff_eq] at h
      rcases h with rfl | rfl <;> rfl
    | _ => rfl
  | byte => cases hn
  | char => cases hn
  | short => cases hn
  | _ => rfl
theorem mm_fits_cv {ty : FieldType} {v : Value} {φ : Nat → Nat} (h : fits ty v = true) : fits ty (mm_cv φ v) = true := by
  cases v with
  | ref a => cases ty <;> first | exact h | rfl
  | _ => exact h
end
section
/-! cells that change -/
theorem mm_OB {S : mm_S} {Y : mm_Y} {U : State} {φ : Nat → Nat} {T : mm_T} {V : mm_V} {H : Heap} (hG : mm_nc S ≤ 100) (h : mm_HR Y U φ T V H) {x a len : Nat} (ha : a < mm_nc S) (hT : T x = some (a, len)) : t_OB (φ x) (Y.1.1 a) len (Y.1.2 a) H (fun k => mm_cv φ (V x k)) := by
  have h1 := (h.1 x a len hT).1
  unfold mm_cell at h1
  rw [if_pos (by omega)] at h1
  exact h1
theorem mm_AR {Y : mm_Y} {U : State} {φ : Nat → Nat} {T : mm_T} {V : mm_V} {H : Heap} (h : mm_HR Y U φ T V H) {x a len : Nat} (ha : 100 ≤ a) (ha' : a ≠ 101) (hT : T x = some (a, len)) : H[φ x]? = some (arrV (Y.2.1 a) len (fun j => mm_cv φ (V x j))) := by
  have h1 := (h.1 x a len hT).1
  unfold mm_cell at h1
  rw [if_neg (by omega), if_neg ha'] at h1
  exact h1
theorem mm_SC {Y : mm_Y} {U : State} {φ : Nat → Nat} {T : mm_T} {V : mm_V} {H : Heap} (h : mm_HR Y U φ T V H) {x len : Nat} (hT : T x = some (101, len)) : ∃ scr : Cell, H[φ x]? = some scr ∧ U.isArrayOf scr .int ∧ scr.vm ≠ .unknown ∧ scr.slots.size = len ∧ ∀ j : Nat, j < len → scr.slots[j]? = some (mm_cv φ (V x j)) := by
  have h1 := (h.1 x 101 len hT).1
  unfold mm_cell at h1
  rw [if_neg (by decide), if_pos rfl] at h1
  exact h1
theorem mm_cv_up {φ : Nat → Nat} {V : mm_V} {x k : Nat} {v : Value} (j : Nat) : mm_cv φ (mm_up V x k v x j) = updV (fun j => mm_cv φ (V x j)) k (mm_cv φ v) j := by
  unfold mm_up updV
  by_cases e : j = k
  · rw [if_pos ⟨rfl, e⟩, if_pos e]
  · rw [if_neg (fun q => e q.2), if_neg e]
/-- an array's cell behind a store -/
theorem mm_AR.put {Y : mm_Y} {U : State} {φ : Nat → Nat} {T : mm_T} {V : mm_V} {H H' : Heap} (h : mm_HR Y U φ T V H) {x a len k : Nat} {v : Value} (ha : 100 ≤ a) (ha' : a ≠ 101) (hT : T x = some (a, len)) (hv : mm_lv T v) (e1 : H'[φ x]? = some ((arrV (Y.2.1 a) len (fun j => mm_cv φ (V x j))).setSlot k (mm_cv φ v))) (hsz : H'.size = H.size) (hoff : ∀ q, q ≠ φ x → H'[q]? = H[q]?) : mm_HR Y U φ T (mm_up V x k v) H' := by
  refine h.put hT hv hsz hoff ?_
  unfold mm_cell
  rw [if_neg (by omega), if_neg ha', e1, arrV_store]
  exact congrArg some (mm_arrV_ext fun j _ => (mm_cv_up j).symm)
theorem mm_apart {S : mm_S} {Y : mm_Y} {s : State} {args : Array Value} {a : Nat} (hts : ∀ w ∈ mm_AL S, w.before args s = true) (hc : mm_cok S a) (hK : u_Kn s (mm_ck S a).1 (mm_ck S a).2.1 (mm_sl S.1 a) (Y.1.1 a) (Y.1.2 a)) : ∀ x y, x < mm_sl S.1 a → y < mm_sl S.1 a → x ≠ y → (Y.1.2 a) x ≠ (Y.1.2 a) y := by
  intro x y hx hy hne
  obtain ⟨hS, -⟩ := hK
  obtain ⟨hw, -, -, hty, hnm, -⟩ := hc
  obtain ⟨_, _, _, fa, hia, ea⟩ := hS x hx
  obtain ⟨_, _, _, fb, hib, eb⟩ := hS y hy
  rw [← ea, ← eb]
  refine u_apart (u_lays hts hw hx) (u_lays hts hw hy) hia hib ?_
  rw [(State.fieldFound?_type hia (hty x hx)).1, (State.fieldFound?_type hib (hty y hy)).1]
  exact hnm x hx y hy hne
section MMW
variable {S : mm_S} {Y : mm_Y} {p : Program} {l : Launch} {e : Env} {R : Room} {s : State} {m : MethodId} {args : Array Value} {below : List Frame} {meth : Method} {c : Code} {H : Heap} {locs : List Loc} {cells slots : Nat} {Q : State → Prop} {μ d pc : Nat} {lsA : Array Slot} {rest : List Value} {φ : Nat → Nat} {T : mm_T} {V : mm_V}
theorem mm_Wget (hG : mm_Good S) (hF : mm_Fix S Y p R s m args meth c μ d) (hHR : mm_HR Y s φ T V H) {x a b w i : Nat} (hd : decode (mm_mb S μ) pc = .ok (.getfield i, 3)) (hf : mm_fd S μ a b w i = true) (hT : T x = some (a, mm_sl S.1 a))
    (kk : W p l e R s m args below meth c H locs cells slots Q (F0 m (pc + 3) lsA (mm_cv φ (V x b) :: rest))) : W p l e R s m args below meth c H locs cells slots Q (F0 m pc lsA (.ref (φ x) :: rest)) := by
  unfold mm_fd at hf
  simp only [Bool.and_eq_true, decide_eq_true_eq] at hf
  obtain ⟨ha, hb, hw⟩ := hf
  obtain ⟨hx, hbb, hml, hown, hts, hin, hCK, -, -⟩ := hF
  obtain ⟨hwc, -, -, hty, hnm, -⟩ := hG.2.2.1.2 a ha
  obtain ⟨cell, q1, q2, q3, q4⟩ := mm_OB hG.2.2.1.1 hHR ha hT
  obtain ⟨hS, hfc, kC, hkC, hkind⟩ := hCK.1 a ha
  obtain ⟨cf, kf, fi, f, hi, hsl⟩ := hS b hb
  refine W.getf hx hbb hown (hts _ (List.mem_of_getElem? hw)) hi (u_facts hfc hkC (u_lays hts hwc hb) hi).1 q1 (by rw [q3]; exact fun h => by cases h) (v := mm_cv φ (V x b)) ?_ rfl rfl hd kk
  rw [hsl]
  exact q4 b hb
theorem mm_Wput (hG : mm_Good S) (hF : mm_Fix S Y p R s m args meth c μ d) (hHR : mm_HR Y s φ T V H) {x a b w i : Nat} {v : Value} (hd : decode (mm_mb S μ) pc = .ok (.putfield i, 3)) (hf : mm_fd S μ a b w i = true)
    (hfin : ((mm_ck S a).2.1 b).2.2.2 = false ∨ (((mm_ck S a).2.1 b).2.2.2 = true ∧ (mm_mn S μ).name = "<init>" ∧ ((mm_ck S a).2.1 b).1 = (mm_mn S μ).cls)) (hT : T x = some (a, mm_sl S.1 a)) (hfit : fits (mm_ft S.1 a b) v = true) (hv : mm_lv T v)
    (kk : ∀ (H1 : Heap) (k : Nat), mm_HR Y s φ T (mm_up V x b v) H1 → H1.size = H.size → W p l e R s m args below meth c H1 (locs ++ [⟨φ x, k⟩]) cells slots Q (F0 m (pc + 3) lsA rest)) : W p l e R s m args below meth c H locs cells slots Q (F0 m pc lsA (mm_cv φ v :: .ref (φ x) :: rest)) := by
  unfold mm_fd at hf
  simp only [Bool.and_eq_true, decide_eq_true_eq] at hf
  obtain ⟨ha, hb, hw⟩ := hf
  obtain ⟨hx, hbb, hml, hown, hts, hin, hCK, -, -⟩ := hF
  have hcok := hG.2.2.1.2 a ha
  have hK := hCK.1 a ha
  have hap := mm_apart (Y := Y) hts hcok hK
  obtain ⟨hwc, -, -, hty, hnm, hpt⟩ := hcok
  obtain ⟨cell, q1, q2, q3, q4⟩ := mm_OB hG.2.2.1.1 hHR ha hT
  obtain ⟨hS, hfc, kC, hkC, hkind⟩ := hK
  obtain ⟨cf, kf, fi, f, hi, hsl⟩ := hS b hb
  have hlay := hts _ (hwc _ (u_in_lay hb))
  have hst := (u_facts hfc hkC (u_lays hts hwc hb) hi).1
  have hn : narrow (mm_ft S.1 a b) (mm_cv φ v) = mm_cv φ v := mm_fits_nar (mm_fits_cv hfit) (hpt b hb)
  have key : ∀ H' : Heap, H'[φ x]? = some (cell.setSlot f.slot (mm_cv φ v)) → H'.size = H.size → (∀ q, q ≠ φ x → H'[q]? = H[q]?) → W p l e R s m args below meth c H' (locs ++ [⟨φ x, f.slot⟩]) cells slots Q (F0 m (pc + 3) lsA rest) := by
    intro H' e1 e2 e3
    refine kk H' _ (hHR.put hT hv e2 e3 ?_) e2
    unfold mm_cell
    rw [if_pos (by have := hG.2.2.1.1; omega)]
    rw [hsl] at e1
    exact t_OB.to (V := updV (fun k => mm_cv φ (V x k)) b (mm_cv φ v)) ⟨_, e1, q2, q3, t_set q4 hap hb (mm_cv φ v)⟩ (fun j _ => (mm_cv_up j).symm)
  unfold u_lay at hlay
  rcases hfin with h0 | ⟨h0, h1, h2⟩
  · rw [if_neg (by rw [h0]; decide)] at hlay
    have h6 := u_store hfc hkC hkind hlay hi (hty b hb) hn (mm_fits_cv hfit)
    exact W.putK hx hbb (f := f) ⟨hown, hts _ (List.mem_of_getElem? hw), ⟨_, _, _, hi⟩, hst⟩ (by rw [q2]; exact h6) q1 q3 (by rw [hsl]; exact k2_hasslot (q4 b hb)) rfl rfl hd key
  · rw [if_pos h0] at hlay
    have hcf : m.cls = cf := by
      obtain ⟨_, _, c', _, _, _, -, -, hf', -, -, -, hown2, -⟩ := Cond.laysFinal_spec hlay
      have e1 : c' = cf := by have := hi.symm.trans hf'; simp at this; exact this.1.symm
      rw [h2] at hown2
      rw [← e1]; exact Option.some.inj (hown.symm.trans hown2)
    have h6 := u_fits hfc hkC hkind (Or.inr hlay) hi (hty b hb) hn (mm_fits_cv hfit)
    exact W.putFinK hx hbb hown (hts _ (List.mem_of_getElem? hw)) hi hst hcf (hin.trans h1) (by rw [q2]; exact h6) q1 q3 (by rw [hsl]; exact k2_hasslot (q4 b hb)) rfl rfl hd key
theorem mm_Wnew (hG : mm_Good S) (hF : mm_Fix S Y p R s m args meth c μ d) (hHR : mm_HR Y s φ T V H) (hB : Y.2.2 ≤ H.size) {x a w i : Nat} (hd : decode (mm_mb S μ) pc = .ok (.new i, 3)) (ha : a < mm_nc S) (hw : (mm_AL S)[w]? = some (Jvm.Cond.classLink (mm_mn S μ).cls i (mm_ck S a).1)) (hT : T x = none) (hc : cells + 1 ≤ R.cells) (hs : slots + mm_sl S.1 a ≤ R.slots)
    (kk : ∀ H1 : Heap, mm_HR Y s (mm_fu φ x H.size) (mm_alT T x a (mm_sl S.1 a)) (mm_alV V x fun k => defaultValue (mm_ft S.1 a k)) H1 → H1.size = H.size + 1 → W p l e R s m args below meth c H1 locs (cells + 1) (slots + mm_sl S.1 a) Q (F0 m (pc + 3) lsA (.ref H.size :: rest))) : W p l e R s m args below meth c H locs cells slots Q (F0 m pc lsA rest) := by
  obtain ⟨hx, hbb, hml, hown, hts, hin, hCK, -, -⟩ := hF
  obtain ⟨hwc, hinst, hini, hty, hnm, hpt⟩ := hG.2.2.1.2 a ha
  have hKn := hCK.1 a ha
  refine W.newcK hx hbb hown (hts _ (List.mem_of_getElem? hw)) (hts _ hinst) (hts _ hini) rfl hd hc hs hKn.2.1 rfl fun H1 kC hkC e1 z1 o1 => ?_
  refine kk H1 (hHR.new hT z1 o1 hB (fun k => mm_lv_def T _) ?_) z1
  unfold mm_cell
  rw [if_pos (by have := hG.2.2.1.1; omega), show mm_fu φ x H.size x = H.size by unfold mm_fu; rw [if_pos rfl]]
  refine (u_born (mm_ft S.1 a) hts hwc hKn hkC e1 hty).to fun k _ => ?_
  show _ = mm_cv _ (mm_alV V x (fun k => defaultValue (mm_ft S.1 a k)) x k)
  unfold mm_alV
  rw [if_pos rfl, mm_cv_def]
theorem mm_Wnewa (hG : mm_Good S) (hF : mm_Fix S Y p R s m args meth c μ d) (hHR : mm_HR Y s φ T V H) (hB : Y.2.2 ≤ H.size) {x : Nat} {n : Int32} (hd : decode (mm_mb S μ) pc = .ok (.newarray .int, 2)) (hT : T x = none) (hn : ¬ n < 0) (hN : n.toNatClampNeg ≤ 1000) (hc : cells + 1 ≤ R.cells) (hs : slots + n.toNatClampNeg ≤ R.slots)
    (kk : ∀ H1 : Heap, mm_HR Y s (mm_fu φ x H.size) (mm_alT T x 100 n.toNatClampNeg) (mm_alV V x fun _ => .int 0) H1 → H1.size = H.size + 1 → W p l e R s m args below meth c H1 locs (cells + 1) (slots + n.toNatClampNeg) Q (F0 m (pc + 2) lsA (.ref H.size :: rest))) : W p l e R s m args below meth c H locs cells slots Q (F0 m pc lsA (.int n :: rest)) := by
  obtain ⟨hx, hbb, hml, hown, hts, hin, hCK, -, -⟩ := hF
  refine va_newaK (atype := .int) hx hbb (hts _ hG.2.2.2.2.1) rfl hd rfl hn rfl (Nat.le_trans (Nat.mul_le_mul_right _ hN) (by decide)) hc hs rfl fun H1 cA e1 z1 o1 hAr hNm => ?_
  have hcA : Y.2.1 100 = cA := Option.some.inj ((show s.vm.findClass _ = some (Y.2.1 100) from hCK.2.1.2).symm.trans hNm)
  refine kk H1 (hHR.new hT z1 o1 hB (fun k => trivial) ?_) z1
  unfold mm_cell
  rw [if_neg (by decide), if_neg (by decide), show mm_fu φ x H.size x = H.size by unfold mm_fu; rw [if_pos rfl], e1, hcA]
  refine congrArg some (mm_arrV_ext fun j _ => ?_)
  unfold mm_alV
  rw [if_pos rfl]
  rfl
theorem mm_Wnewq (hG : mm_Good S) (hF : mm_Fix S Y p R s m args meth c μ d) (hHR : mm_HR Y s φ T V H) (hB : Y.2.2 ≤ H.size) {x a w i : Nat} {n : Int32} (hd : decode (mm_mb S μ) pc = .ok (.anewarray i, 3)) (ha : a = 102 ∨ a = 103) (hw : (mm_AL S)[w]? = some (Jvm.Cond.classLink (mm_mn S μ).cls i (mm_ck S (mm_ek S a)).1)) (hT : T x = none) (hn : ¬ n < 0) (hN : n.toNatClampNeg ≤ 1000) (hc : cells + 1 ≤ R.cells) (hs : slots + n.toNatClampNeg ≤ R.slots)
    (kk : ∀ H1 : Heap, mm_HR Y s (mm_fu φ x H.size) (mm_alT T x a n.toNatClampNeg) (mm_alV V x fun _ => .null) H1 → H1.size = H.size + 1 → W p l e R s m args below meth c H1 locs (cells + 1) (slots + n.toNatClampNeg) Q (F0 m (pc + 3) lsA (.ref H.size :: rest))) : W p l e R s m args below meth c H locs cells slots Q (F0 m pc lsA (.int n :: rest)) := by
  obtain ⟨hx, hbb, hml, hown, hts, hin, hCK, -, -⟩ := hF
  obtain ⟨hAr, hRA, hAO⟩ := hCK.2.2 a ha
  refine W.anew hx hbb hown (hts _ (List.mem_of_getElem? hw)) (va_AO.use hAO) rfl hd rfl hn (by omega) hc hs fun cA kA comp f1 f2 f3 f4 => ?_
  have hcA : Y.2.1 a = cA := by
    obtain ⟨_, _, _, _, _, k4⟩ := hRA
    exact Option.some.inj (k4.symm.trans f1)
  refine kk _ (hHR.new hT (by rw [Array.size_push]) (fun q hq => by rw [Array.getElem?_push, if_neg (Nat.ne_of_lt hq)]) hB (fun k => trivial) ?_) (by rw [Array.size_push])
  unfold mm_cell
  rw [if_neg (by omega), if_neg (by omega), show mm_fu φ x H.size x = H.size by unfold mm_fu; rw [if_pos rfl], Array.getElem?_push_size, arrV_new, hcA]
  refine congrArg some (mm_arrV_ext fun j _ => ?_)
  unfold mm_alV
  rw [if_pos rfl]
  rfl
theorem mm_Wiald (hF : mm_Fix S Y p R s m args meth c μ d) (hHR : mm_HR Y s φ T V H) {x : Nat} {j : Int32} (hd : decode (mm_mb S μ) pc = .ok (.iaload, 1)) (hi : mm_in (T x) 100 101 j = true)
    (kk : W p l e R s m args below meth c H locs cells slots Q (F0 m (pc + 1) lsA (mm_cv φ (V x j.toNatClampNeg) :: rest))) : W p l e R s m args below meth c H locs cells slots Q (F0 m pc lsA (.int j :: .ref (φ x) :: rest)) := by
  obtain ⟨hx, hbb, hml, hown, hts, hin, hCK, -, -⟩ := hF
  obtain ⟨kd, len, hT, h1, h2, h3, h4⟩ := mm_in_some hi
  by_cases e1 : kd = 101
  · subst e1
    obtain ⟨scr, q1, q2, q3, q4, q5⟩ := mm_SC hHR hT
    exact W.iald hx hbb q1 q2 q3 (by rw [q4]; exact fun q => q.elim h3 (fun z => by omega)) (q5 _ h4) rfl rfl hd kk
  · have e2 : kd = 100 := by omega
    subst e2
    exact W.iald hx hbb (mm_AR hHR (by decide) (by decide) hT) (hCK.2.1.1 _ _) (fun q => by cases q) (by rw [arrV_size]; exact fun q => q.elim h3 (fun z => by omega)) (arrV_read _ _ h4) rfl rfl hd kk
theorem mm_Waald (hF : mm_Fix S Y p R s m args meth c μ d) (hHR : mm_HR Y s φ T V H) {x : Nat} {j : Int32} (hd : decode (mm_mb S μ) pc = .ok (.aaload, 1)) (hi : mm_in (T x) 102 103 j = true)
    (kk : W p l e R s m args below meth c H locs cells slots Q (F0 m (pc + 1) lsA (mm_cv φ (V x j.toNatClampNeg) :: rest))) : W p l e R s m args below meth c H locs cells slots Q (F0 m pc lsA (.int j :: .ref (φ x) :: rest)) := by
  obtain ⟨hx, hbb, hml, hown, hts, hin, hCK, -, -⟩ := hF
  obtain ⟨kd, len, hT, h1, h2, h3, h4⟩ := mm_in_some hi
  exact W.aald (ty := .object (mm_ck S (mm_ek S kd)).1) hx hbb (mm_AR hHR (by omega) (by omega) hT) ((hCK.2.2 kd (by omega)).1 _ _) rfl (fun q => by cases q) (by rw [arrV_size]; exact fun q => q.elim h3 (fun z => by omega)) (arrV_read _ _ h4) rfl rfl hd kk
theorem mm_Walen (hF : mm_Fix S Y p R s m args meth c μ d) (hHR : mm_HR Y s φ T V H) {x kd len : Nat} (hd : decode (mm_mb S μ) pc = .ok (.arraylength, 1)) (hT : T x = some (kd, len)) (h1 : 100 ≤ kd) (h2 : kd ≤ 103)
    (kk : W p l e R s m args below meth c H locs cells slots Q (F0 m (pc + 1) lsA (.int (Int32.ofNat len) :: rest))) : W p l e R s m args below meth c H locs cells slots Q (F0 m pc lsA (.ref (φ x) :: rest)) := by
  obtain ⟨hx, hbb, hml, hown, hts, hin, hCK, -, -⟩ := hF
  by_cases e1 : kd = 101
  · subst e1
    obtain ⟨scr, q1, q2, q3, q4, q5⟩ := mm_SC hHR hT
    exact W.alen hx hbb q1 q2 (by rw [q4] <;> rfl) rfl rfl hd kk
  · by_cases e2 : kd = 100
    · subst e2
      exact W.alen hx hbb (mm_AR hHR (by decide) (by decide) hT) (hCK.2.1.1 _ _) (by rw [arrV_size] <;> rfl) rfl rfl hd kk
    · exact W.alen hx hbb (mm_AR hHR (by omega) (by omega) hT) ((hCK.2.2 kd (by omega)).1 _ _) (by rw [arrV_size] <;> rfl) rfl rfl hd kk
theorem mm_Wiast (hF : mm_Fix S Y p R s m args meth c μ d) (hHR : mm_HR Y s φ T V H) {x : Nat} {j v : Int32} (hd : decode (mm_mb S μ) pc = .ok (.iastore, 1)) (hi : mm_in (T x) 100 100 j = true)
    (kk : ∀ (H1 : Heap) (k : Nat), mm_HR Y s φ T (mm_up V x j.toNatClampNeg (.int v)) H1 → H1.size = H.size → W p l e R s m args below meth c H1 (locs ++ [⟨φ x, k⟩]) cells slots Q (F0 m (pc + 1) lsA rest)) : W p l e R s m args below meth c H locs cells slots Q (F0 m pc lsA (.int v :: .int j :: .ref (φ x) :: rest)) := by
  obtain ⟨hx, hbb, hml, hown, hts, hin, hCK, -, -⟩ := hF
  obtain ⟨kd, len, hT, h1, h2, h3, h4⟩ := mm_in_some hi
  have e2 : kd = 100 := by omega
  subst e2
  exact W.iast hx hbb (mm_AR hHR (by decide) (by decide) hT) (hCK.2.1.1 _ _) (fun q => by cases q) (by rw [arrV_size]; exact fun q => q.elim h3 (fun z => by omega)) rfl rfl hd fun H1 e1 z1 o1 => kk H1 _ (mm_AR.put (v := .int v) hHR (by decide) (by decide) hT trivial e1 z1 o1) z1
theorem mm_Waast (hG : mm_Good S) (hF : mm_Fix S Y p R s m args meth c μ d) (hHR : mm_HR Y s φ T V H) {x v a b : Nat} {j : Int32} (hd : decode (mm_mb S μ) pc = .ok (.aastore, 1)) (ha : a = 102 ∨ a = 103) (hb : b = mm_ek S a) (hbn : b < mm_nc S) (hi : mm_in (T x) a a j = true) (hv : T v = some (b, mm_sl S.1 b))
    (kk : ∀ (H1 : Heap) (k : Nat), mm_HR Y s φ T (mm_up V x j.toNatClampNeg (.ref v)) H1 → H1.size = H.size → W p l e R s m args below meth c H1 (locs ++ [⟨φ x, k⟩]) cells slots Q (F0 m (pc + 1) lsA rest)) : W p l e R s m args below meth c H locs cells slots Q (F0 m pc lsA (.ref (φ v) :: .int j :: .ref (φ x) :: rest)) := by
  obtain ⟨hx, hbb, hml, hown, hts, hin, hCK, -, -⟩ := hF
  obtain ⟨kd, len, hT, h1, h2, h3, h4⟩ := mm_in_some hi
  have e2 : kd = a := by omega
  subst e2
  obtain ⟨cellV, g1, g2, g3, -⟩ := mm_OB hG.2.2.1.1 hHR hbn hv
  have hcls := (hCK.1 b hbn).2
  obtain ⟨-, hRA, -⟩ := hCK.2.2 kd ha
  rw [← hb] at hRA
  obtain ⟨kA, comp, k1, k2, k3, -⟩ := hRA
  have hcomp : comp = Y.1.1 b := Option.some.inj (k3.symm.trans hcls.1)
  subst hcomp
  have hasg := va_assign hcls
  obtain ⟨kC, hkC, -⟩ := hcls.2
  exact W.aast hx hbb (mm_AR hHR (by omega) (by omega) hT) (fun q h => by cases h) (fun h => by cases h) k1 k2 rfl hkC ⟨h3, by rw [arrV_size]; exact h4⟩ g1 (fun q h => by rw [g3] at h; cases h) (by rw [g2]; exact hkC) (by rw [g2]; exact hasg) rfl rfl hd fun H1 e1 z1 o1 => kk H1 _ (mm_AR.put (v := .ref v) hHR (by omega) (by omega) hT (by show T v ≠ none; rw [hv]; exact fun z => by cases z) e1 z1 o1) z1
end MMW
end
section
/-! calls -/
def mm_Pc (S : mm_S) (Y : mm_Y) (φ : Nat → Nat) (T : mm_T) (V : mm_V) (vs : List Value) : Array Value → State → Prop := fun a U => a = (vs.map (mm_cv φ)).toArray ∧ mm_HR Y U φ T V U.heap ∧ Y.2.2 ≤ U.heap.size ∧ mm_CK S Y U ∧ mm_NK S U
def mm_Qc (Y : mm_Y) (φ : Nat → Nat) (T : mm_T) (r : mm_R) : Array Value → State → Outcome → State → Prop := fun _ _ o t => ∃ φ' : Nat → Nat, o = .returned r.1 ∧ mm_HR Y t φ' r.2.1 r.2.2.1 t.heap ∧ Y.2.2 ≤ t.heap.size ∧ mm_ext φ T φ' r.2.1
abbrev mm_rm (d : Nat) (r : mm_R) : Room := { frames := d, cells := r.2.2.2.1, slots := r.2.2.2.2, locals := 27 * d }
abbrev mm_ws (S : mm_S) (μ : Nat) : List Cond := Cond.code (mm_mn S μ) (mm_mb S μ) (mm_mx S.1 μ) (mm_mr S μ) :: mm_AL S
theorem mm_met {S : mm_S} {Y : mm_Y} {n d μ : Nat} {vs : List Value} {T : mm_T} {V : mm_V} {r : mm_R} (φ : Nat → Nat) (hG : mm_Good S) (ih : mm_IH S Y n) (hμ : μ < mm_nm S) (h : mm_run S.1 n d μ 0 (vs ++ List.replicate (mm_mx S.1 μ - vs.length) (.retAddr 0)) [] (T, V, 0, 0) = some r)
    (hc : ∀ w ∈ vs, mm_ar w = true) (hn : vs.length ≤ mm_mx S.1 μ) (hv : ∀ w ∈ vs, mm_lv T w) (l : Launch) : Met l (mm_mn S μ) (mm_ws S μ) (mm_rm d r) (mm_Pc S Y φ T V vs) (mm_Qc Y φ T r) r.2.2.2.1 r.2.2.2.2 (fun q => Y.2.2 ≤ q) := by
  obtain ⟨⟨hpl, -, -, -, -⟩, -, hret, -⟩ := hG.2.2.2.1.1 μ hμ
  refine Met.ofW (cc := mm_mb S μ) (maxL := mm_mx S.1 μ) (ret := mm_mr S μ) hpl rfl ?_
  intro p e s m args below meth c s₁ B hml hv'
  obtain ⟨rfl, hHR, hB, hCK, hNK⟩ := hv'
  have hts := atoms_spec (ws := mm_ws S μ) B.pre
  have hlocks := B.notSynchronized
  have hF : mm_Fix S Y p (headSpec (mm_ws S μ) (mm_rm d r)).room s m (vs.map (mm_cv φ)).toArray meth c μ d :=
    ⟨B.exec, B.bytes, hml, findClass_of_methodNamed B.named, fun w hw => hts w (List.mem_cons_of_mem _ hw), (name_of_methodNamed B.named B.method).1, hCK, ⟨Nat.le_refl _, hNK⟩, Nat.le_refl _⟩
  rw [lg_entry_eq]
  refine (ih _ _ _ _ _ _ _ h).2 p l e _ s m _ below meth c _ hF (Nat.le_refl _) (Nat.le_refl _) s.heap [] _ φ hHR hB (fun q hq => by cases hq) (mm_LR.entry hc hn hv) (fun v hv => by cases hv) ?_
  intro φ' H' locs' pcR lsR hHR' hB' hL' hE
  refine ⟨fun x hx hb hd => ?_, fun hx hb hd => ?_⟩
  · have hq : ∀ t : State, t.heap = H' → s.WarmedH t.vm → mm_Qc Y φ T r (vs.map (mm_cv φ)).toArray s (.returned (some (.int x))) t := fun t ht hW => ⟨φ', by rw [hx], by rw [ht]; exact hHR'.moved hW.alike, by rw [ht]; exact hB', hE⟩
    rcases hret with ⟨h1, h2⟩ | ⟨h1, h2⟩ | ⟨h1, h2⟩
    · omega
    · exact W.zret (ty := .int) B.exec B.bytes (B.returns.trans h2) rfl hq hL' hd hlocks
    · refine W.zret (ty := .boolean) B.exec B.bytes (B.returns.trans h2) ?_ hq hL' hd hlocks
      rcases hb with hb | ⟨-, rfl | rfl⟩
      · omega
      · rfl
      · rfl
  · rcases hret with ⟨h1, h2⟩ | ⟨h1, h2⟩ | ⟨h1, h2⟩
    · exact W.vret B.exec B.bytes (B.returns.trans h2) (fun t ht hW => ⟨φ', by rw [hx], by rw [ht]; exact hHR'.moved hW.alike, by rw [ht]; exact hB', hE⟩) hL' hd hlocks
    · omega
    · omega
theorem mm_blind {S : mm_S} {Y : mm_Y} {φ : Nat → Nat} {T : mm_T} {V : mm_V} {vs : List Value} (hn : mm_NG S) : FrameBlind (mm_Pc S Y φ T V vs) := by
  intro a U g mk h
  obtain ⟨h1, h2, h3, h4, h5⟩ := h
  exact ⟨h1, mm_HR.moved (u := U) (U := U.calling g mk a) (Vm.Alike.refl U.vm) h2, h3, mm_CK.moved (u := U) (U := U.calling g mk a) (Vm.Alike.refl U.vm) h4, mm_NK.same (s := U) (U := U.calling g mk a) hn rfl h5⟩
theorem mm_goodin {S : mm_S} {μ : Nat} (hG : mm_Good S) (hμ : μ < mm_nm S) : GoodIn (mm_AL S) (mm_ws S μ) := by
  intro w hw
  rcases List.mem_cons.mp hw with rfl | h
  · have hc := (hG.2.2.2.1.1 μ hμ).1.2.1
    exact ⟨hc, hG.2.1 _ hc⟩
  · exact ⟨h, hG.2.1 _ h⟩
theorem mm_int_cv {φ : Nat → Nat} {o : Option Value} (h : o = none ∨ ∃ x, o = some (.int x)) : o.toList.map (mm_cv φ) = o.toList := by
  rcases h with rfl | ⟨x, rfl⟩ <;> rfl
theorem mm_int_lv {T : mm_T} {o : Option Value} (h : o = none ∨ ∃ x, o = some (.int x)) : ∀ v ∈ o.toList, mm_lv T v := by
  rcases h with rfl | ⟨x, rfl⟩
  · intro v hv; cases hv
  · intro v hv
    rw [show (some (Value.int x)).toList = [Value.int x] from rfl, List.mem_singleton] at hv
    rw [hv]; trivial
theorem mm_take_ref {st : List Value} {k x : Nat} (h : st[k]? = some (.ref x)) : st.take (k + 1) = st.take k ++ [.ref x] := by
  rw [List.take_succ, h]
  rfl
/-- behind a call -/
theorem mm_after {S : mm_S} {Y : mm_Y} {n d μ pc k : Nat} {ls st : List Value} {g : mm_M} {q r : mm_R} (ih : mm_IH S Y n) (hres : q.1 = none ∨ ∃ x, q.1 = some (.int x))
    (hk : mm_run S.1 n d μ (pc + 3) ls (q.1.toList ++ st.drop k) (q.2.1, q.2.2.1, g.2.2.1 + q.2.2.2.1, g.2.2.2 + q.2.2.2.2) = some r)
    {p : Program} {l : Launch} {e : Env} {R : Room} {s : State} {m : MethodId} {args : Array Value} {below : List Frame} {meth : Method} {c : Code} {Q : State → Prop} {H : Heap} {locs : List Loc} {lsA : Array Slot} {φ : Nat → Nat} {a : Array Value}
    (hF : mm_Fix S Y p R s m args meth c μ d) (hc : r.2.2.2.1 ≤ R.cells) (hs : r.2.2.2.2 ≤ R.slots) (hL : ∀ q ∈ locs, Y.2.2 ≤ q.base) (hLR : mm_LR φ g.1 ls lsA (mm_mx S.1 μ)) (hst : ∀ v ∈ st, mm_lv g.1 v) (hret : mm_Ret S Y p l e R s m args below meth c Q μ φ g.1 r)
    (hrun : va_Run p l e R s m args below meth c H locs g.2.2.1 g.2.2.2 q.2.2.2.1 q.2.2.2.2 (F0 m pc lsA (st.map (mm_cv φ))) ((st.drop k).map (mm_cv φ)) (mm_Qc Y φ g.1 q a) (fun x => Y.2.2 ≤ x)) :
    W p l e R s m args below meth c H locs g.2.2.1 g.2.2.2 Q (F0 m pc lsA (st.map (mm_cv φ))) := by
  intro T0 hT0 X
  obtain ⟨v, st₀, t, T', L, h0, X', hL2, e1, e2, ⟨φ', ho, hHR', hB', hE⟩, go⟩ := hrun T0 hT0 X
  cases ho
  have hdr : ∀ v ∈ st.drop k, mm_lv g.1 v := fun v hv => hst v (List.mem_of_mem_drop hv)
  have hal : t.vm.Alike s.vm := by rw [← e2]; exact X'.warmed.alike.symm
  have h1 := (ih _ _ _ _ _ _ _ hk).2 p l e R s m args below meth c Q hF hc hs T'.heap (locs ++ L) lsA φ' (by rw [e1]; exact hHR'.moved hal) (by rw [e1]; exact hB')
    (fun q hq => by
      rcases List.mem_append.mp hq with h | h
      · exact hL q h
      · exact hL2 q h) (hLR.ext hE) (fun v hv => by
      rcases List.mem_append.mp hv with h | h
      · exact mm_int_lv hres v h
      · exact mm_lv_ext hE (hdr v h)) (hret.ext hE)
  obtain ⟨t2, a1, b1⟩ := h1 T' rfl X'
  rw [List.map_append, mm_int_cv hres, mm_map_ext hE hdr] at a1
  exact ⟨t2, go t2 a1, b1⟩
end
section
/-! the machine of our own tells what the Java machine does: by the number of steps -/
theorem mm_call0 {S : mm_S} {Y : mm_Y} {n d μ pc a b w i : Nat} {ls st : List Value} {g : mm_M} {r : mm_R} (hG : mm_Good S) (ih : mm_IH S Y n) (hd : decode (mm_mb S μ) pc = .ok (.invokestatic i, 3)) (hm : mm_ml S μ a b w i 0 = true) (h : mm_cl S.1 (mm_run S.1 n) d μ pc a b ls st g = some r) : mm_Con S Y d μ pc ls st g r := by
  unfold mm_ml at hm
  simp only [Bool.and_eq_true, decide_eq_true_eq] at hm
  obtain ⟨ha, hkm, hw⟩ := hm
  cases d with
  | zero => cases h
  | succ d =>
  unfold mm_cl at h
  obtain ⟨⟨h1, h2, h3⟩, h⟩ := mm_if_some h
  split at h
  · rename_i q hq
    have hcq := ih _ _ _ _ _ _ _ hq
    obtain ⟨⟨⟨c1, c2⟩, hres⟩, -⟩ := hcq
    have hck := ih _ _ _ _ _ _ _ h
    obtain ⟨⟨⟨k1, k2⟩, k3⟩, -⟩ := hck
    have k1' : g.2.2.1 + q.2.2.2.1 ≤ r.2.2.2.1 := k1
    have k2' : g.2.2.2 + q.2.2.2.2 ≤ r.2.2.2.2 := k2
    refine ⟨⟨⟨by omega, by omega⟩, k3⟩, ?_⟩
    intro p l e R s m args below meth c Q hF hc hs H locs lsA φ hHR hB hL hLR hst hret
    obtain ⟨⟨hpl, hcode, hini, hy1, hy2⟩, ⟨hmx, hnm⟩, hr, hkind⟩ := hG.2.2.2.1.1 a ha
    rw [hkm] at hnm hkind
    have hlen : (st.take b).reverse.length = b := by rw [List.length_reverse, List.length_take]; omega
    have hall : ∀ w ∈ (st.take b).reverse, mm_ar w = true := fun w hw => List.all_eq_true.mp h3 w (List.mem_reverse.mp hw)
    have hlv : ∀ w ∈ (st.take b).reverse, mm_lv g.1 w := fun w hw => hst w (List.mem_of_mem_take (List.mem_reverse.mp hw))
    have hM := mm_met (Y := Y) (n := n) (d := d) (T := g.1) (V := g.2.1) (r := q) (vs := (st.take b).reverse) φ hG ih ha (by rw [hlen]; exact hq) hall (by rw [hlen]; exact hnm) hlv l
    obtain ⟨hx, hbb, hml, hown, hts, hin, hCK, ⟨hfr, hNK⟩, hlo⟩ := id hF
    rcases hkind with ⟨-, hpar, hstat⟩ | ⟨z, -⟩ | ⟨z, -⟩
    · refine mm_after (a := (((st.take b).reverse).map (mm_cv φ)).toArray) ih hres h hF hc hs hL hLR hst hret ?_
      refine va_runS (cc := mm_mb S μ) (Ts := mm_AL S) (own := (mm_mn S μ).cls) (n := b) (As := ((st.take b).reverse).map (mm_cv φ)) ⟨hx, hbb, hml, hown, hts⟩ hM
        ⟨callB_of b hts (mm_goodin hG ha) rfl rfl rfl (hts _ hini) (hts _ (List.mem_of_getElem? hw)) ⟨hy1, hy2, hpar⟩ ⟨hfr, by show 8 + (mm_mx S.1 a + 11) + 27 * d ≤ R.locals; omega⟩, hts _ hstat⟩
        ⟨mm_blind hG.2.2.2.1.2, fun U hU hW => ⟨rfl, by rw [hU]; exact hHR.moved hW.alike, by rw [hU]; exact hB, hCK.moved hW.alike, hNK.warm hG.2.2.2.1.2 hW⟩⟩ rfl (by rw [List.length_map]; exact hlen) hLR.1 ?_ ?_ hd ⟨Nat.le_trans k1' hc, Nat.le_trans k2' hs⟩
      · show st.map (mm_cv φ) = _
        rw [← List.map_reverse, List.reverse_reverse, ← List.map_append, List.take_append_drop]
      · show 2 * 0 + _ ≤ 8
        have := mm_catsum ((st.drop b).map (mm_cv φ))
        rw [List.length_map] at this
        omega
    · cases z
    · rcases z with z | z <;> cases z
  · cases h
theorem mm_call1 {S : mm_S} {Y : mm_Y} {n d μ pc a b w i : Nat} {ls st : List Value} {g : mm_M} {r : mm_R} (hG : mm_Good S) (ih : mm_IH S Y n) (hd : decode (mm_mb S μ) pc = .ok (.invokevirtual i, 3)) (hm : mm_ml S μ a b w i 1 = true) (hrv : mm_rv S.1 a b st g.1 = true) (h : mm_cl S.1 (mm_run S.1 n) d μ pc a b ls st g = some r) : mm_Con S Y d μ pc ls st g r := by
  unfold mm_ml at hm
  simp only [Bool.and_eq_true, decide_eq_true_eq] at hm
  obtain ⟨ha, hkm, hw⟩ := hm
  cases d with
  | zero => cases h
  | succ d =>
  unfold mm_cl at h
  obtain ⟨⟨h1, h2, h3⟩, h⟩ := mm_if_some h
  split at h
  · rename_i q hq
    have hcq := ih _ _ _ _ _ _ _ hq
    obtain ⟨⟨⟨c1, c2⟩, hres⟩, -⟩ := hcq
    have hck := ih _ _ _ _ _ _ _ h
    obtain ⟨⟨⟨k1, k2⟩, k3⟩, -⟩ := hck
    have k1' : g.2.2.1 + q.2.2.2.1 ≤ r.2.2.2.1 := k1
    have k2' : g.2.2.2 + q.2.2.2.2 ≤ r.2.2.2.2 := k2
    refine ⟨⟨⟨by omega, by omega⟩, k3⟩, ?_⟩
    intro p l e R s m args below meth c Q hF hc hs H locs lsA φ hHR hB hL hLR hst hret
    obtain ⟨⟨hpl, hcode, hini, hy1, hy2⟩, ⟨hmx, hnm⟩, hr, hkind⟩ := hG.2.2.2.1.1 a ha
    rw [hkm] at hnm hkind
    have hlen : (st.take b).reverse.length = b := by rw [List.length_reverse, List.length_take]; omega
    have hall : ∀ w ∈ (st.take b).reverse, mm_ar w = true := fun w hw => List.all_eq_true.mp h3 w (List.mem_reverse.mp hw)
    have hlv : ∀ w ∈ (st.take b).reverse, mm_lv g.1 w := fun w hw => hst w (List.mem_of_mem_take (List.mem_reverse.mp hw))
    have hM := mm_met (Y := Y) (n := n) (d := d) (T := g.1) (V := g.2.1) (r := q) (vs := (st.take b).reverse) φ hG ih ha (by rw [hlen]; exact hq) hall (by rw [hlen]; exact hnm) hlv l
    obtain ⟨hx, hbb, hml, hown, hts, hin, hCK, ⟨hfr, hNK⟩, hlo⟩ := id hF
    rcases hkind with ⟨z, -⟩ | ⟨-, hpar, hinst, hsel, hrc, hcls⟩ | ⟨z, -⟩
    · cases z
    · unfold mm_rv at hrv
      split at hrv
      · rename_i x hx2
        have hTx := of_decide_eq_true hrv
        have hb1 : 1 ≤ b := by
          cases hp : parseMethodDescriptor (mm_mn S a).desc with
          | none => rw [hp] at hpar; cases hpar
          | some z => rw [hp] at hpar; have h9 : z.parameters.length + 1 = b := Option.some.inj hpar; omega
        obtain ⟨k, rfl⟩ : ∃ k, b = k + 1 := ⟨b - 1, by omega⟩
        rw [Nat.add_sub_cancel] at hx2
        have htk := mm_take_ref hx2
        have hvs : (st.take (k + 1)).reverse = .ref x :: (st.take k).reverse := by rw [htk, List.reverse_append]; rfl
        have hpar' : (parseMethodDescriptor (mm_mn S a).desc).map (fun d => d.parameters.length) = some k := by
          cases hp : parseMethodDescriptor (mm_mn S a).desc with
          | none => rw [hp] at hpar; cases hpar
          | some z => rw [hp] at hpar; have h9 : z.parameters.length + 1 = k + 1 := Option.some.inj hpar; exact congrArg some (show z.parameters.length = k by omega)
        rw [hvs] at hM
        obtain ⟨cellB, q1, q2, q3, -⟩ := mm_OB hG.2.2.1.1 hHR hrc hTx
        refine mm_after (a := (Value.ref (φ x) :: ((st.take k).reverse).map (mm_cv φ)).toArray) ih hres h hF hc hs hL hLR hst hret ?_
        refine va_runV (cc := mm_mb S μ) (Ts := mm_AL S) (own := (mm_mn S μ).cls) (C := (mm_mn S a).cls) (n := k) (b := φ x) (As := ((st.take k).reverse).map (mm_cv φ)) ⟨hx, hbb, hml, hown, hts⟩ hM
          ⟨callB_of k hts (mm_goodin hG ha) rfl rfl rfl (hts _ hini) (hts _ (List.mem_of_getElem? hw)) ⟨hy1, hy2, hpar'⟩ ⟨hfr, by show 8 + (mm_mx S.1 a + 11) + 27 * d ≤ R.locals; omega⟩, hts _ hinst, hts _ hsel⟩
          ⟨mm_blind hG.2.2.2.1.2, ⟨cellB, q1, by rw [q3]; rfl, by rw [q2, ← hcls]; exact (hCK.1 _ hrc).2.1⟩, fun U hU hW => ⟨rfl, by rw [hU]; exact hHR.moved hW.alike, by rw [hU]; exact hB, hCK.moved hW.alike, hNK.warm hG.2.2.2.1.2 hW⟩⟩ rfl (by rw [List.length_map, List.length_reverse, List.length_take]; omega) hLR.1 ?_ ?_ hd ⟨Nat.le_trans k1' hc, Nat.le_trans k2' hs⟩
        · show st.map (mm_cv φ) = _
          rw [← List.map_reverse, List.reverse_reverse]
          conv => lhs; rw [← List.take_append_drop (k + 1) st, htk, List.map_append, List.map_append, List.append_assoc]
          rfl
        · show 2 * 0 + _ ≤ 8
          have := mm_catsum ((st.drop (k + 1)).map (mm_cv φ))
          rw [List.length_map] at this
          omega
      · cases hrv
    · rcases z with z | z <;> cases z
  · cases h
theorem mm_call2 {S : mm_S} {Y : mm_Y} {n d μ pc a b w i : Nat} {ls st : List Value} {g : mm_M} {r : mm_R} (hG : mm_Good S) (ih : mm_IH S Y n) (hd : decode (mm_mb S μ) pc = .ok (.invokespecial i, 3)) (hm : mm_ml S μ a b w i 2 = true) (hrf : mm_rf b st = true) (h : mm_cl S.1 (mm_run S.1 n) d μ pc a b ls st g = some r) : mm_Con S Y d μ pc ls st g r := by
  unfold mm_ml at hm
  simp only [Bool.and_eq_true, decide_eq_true_eq] at hm
  obtain ⟨ha, hkm, hw⟩ := hm
  cases d with
  | zero => cases h
  | succ d =>
  unfold mm_cl at h
  obtain ⟨⟨h1, h2, h3⟩, h⟩ := mm_if_some h
  split at h
  · rename_i q hq
    have hcq := ih _ _ _ _ _ _ _ hq
    obtain ⟨⟨⟨c1, c2⟩, hres⟩, -⟩ := hcq
    have hck := ih _ _ _ _ _ _ _ h
    obtain ⟨⟨⟨k1, k2⟩, k3⟩, -⟩ := hck
    have k1' : g.2.2.1 + q.2.2.2.1 ≤ r.2.2.2.1 := k1
    have k2' : g.2.2.2 + q.2.2.2.2 ≤ r.2.2.2.2 := k2
    refine ⟨⟨⟨by omega, by omega⟩, k3⟩, ?_⟩
    intro p l e R s m args below meth c Q hF hc hs H locs lsA φ hHR hB hL hLR hst hret
    obtain ⟨⟨hpl, hcode, hini, hy1, hy2⟩, ⟨hmx, hnm⟩, hr, hkind⟩ := hG.2.2.2.1.1 a ha
    rw [hkm] at hnm hkind
    have hlen : (st.take b).reverse.length = b := by rw [List.length_reverse, List.length_take]; omega
    have hall : ∀ w ∈ (st.take b).reverse, mm_ar w = true := fun w hw => List.all_eq_true.mp h3 w (List.mem_reverse.mp hw)
    have hlv : ∀ w ∈ (st.take b).reverse, mm_lv g.1 w := fun w hw => hst w (List.mem_of_mem_take (List.mem_reverse.mp hw))
    have hM := mm_met (Y := Y) (n := n) (d := d) (T := g.1) (V := g.2.1) (r := q) (vs := (st.take b).reverse) φ hG ih ha (by rw [hlen]; exact hq) hall (by rw [hlen]; exact hnm) hlv l
    obtain ⟨hx, hbb, hml, hown, hts, hin, hCK, ⟨hfr, hNK⟩, hlo⟩ := id hF
    rcases hkind with ⟨z, -⟩ | ⟨z, -⟩ | ⟨-, hpar, hinst, hname, hmr⟩
    · cases z
    · cases z
    · unfold mm_rf at hrf
      split at hrf
      · rename_i x hx2
        have hb1 : 1 ≤ b := by
          cases hp : parseMethodDescriptor (mm_mn S a).desc with
          | none => rw [hp] at hpar; cases hpar
          | some z => rw [hp] at hpar; have h9 : z.parameters.length + 1 = b := Option.some.inj hpar; omega
        obtain ⟨k, rfl⟩ : ∃ k, b = k + 1 := ⟨b - 1, by omega⟩
        rw [Nat.add_sub_cancel] at hx2
        have htk := mm_take_ref hx2
        have hvs : (st.take (k + 1)).reverse = .ref x :: (st.take k).reverse := by rw [htk, List.reverse_append]; rfl
        have hpar' : (parseMethodDescriptor (mm_mn S a).desc).map (fun d => d.parameters.length) = some k := by
          cases hp : parseMethodDescriptor (mm_mn S a).desc with
          | none => rw [hp] at hpar; cases hpar
          | some z => rw [hp] at hpar; have h9 : z.parameters.length + 1 = k + 1 := Option.some.inj hpar; exact congrArg some (show z.parameters.length = k by omega)
        rw [hvs] at hM
        have hcode' : mm_ws S a = Cond.code (mm_mn S a) (mm_mb S a) (mm_mx S.1 a) none :: mm_AL S := by show _ :: _ = _; rw [hmr]
        refine mm_after (a := (Value.ref (φ x) :: ((st.take k).reverse).map (mm_cv φ)).toArray) ih hres h hF hc hs hL hLR hst hret ?_
        refine va_runI (cc := mm_mb S μ) (Ts := mm_AL S) (own := (mm_mn S μ).cls) (n := k) (b := φ x) (As := ((st.take k).reverse).map (mm_cv φ)) ⟨hx, hbb, hml, hown, hts⟩ hM
          ⟨callB_of k hts (mm_goodin hG ha) hcode' rfl rfl (hts _ hini) (hts _ (List.mem_of_getElem? hw)) ⟨hy1, hy2, hpar'⟩ ⟨hfr, by show 8 + (mm_mx S.1 a + 11) + 27 * d ≤ R.locals; omega⟩, hname, hts _ hinst⟩
          ⟨mm_blind hG.2.2.2.1.2, fun U hU hW => ⟨rfl, by rw [hU]; exact hHR.moved hW.alike, by rw [hU]; exact hB, hCK.moved hW.alike, hNK.warm hG.2.2.2.1.2 hW⟩⟩ rfl (by rw [List.length_map, List.length_reverse, List.length_take]; omega) hLR.1 ?_ ?_ hd ⟨Nat.le_trans k1' hc, Nat.le_trans k2' hs⟩
        · show st.map (mm_cv φ) = _
          rw [← List.map_reverse, List.reverse_reverse]
          conv => lhs; rw [← List.take_append_drop (k + 1) st, htk, List.map_append, List.map_append, List.append_assoc]
          rfl
        · show 2 * 0 + _ ≤ 8
          have := mm_catsum ((st.drop (k + 1)).map (mm_cv φ))
          rw [List.length_map] at this
          omega
      · cases hrf
  · cases h
theorem mm_call3 {S : mm_S} {Y : mm_Y} {n d μ pc a b w i : Nat} {ls st : List Value} {g : mm_M} {r : mm_R} (hG : mm_Good S) (ih : mm_IH S Y n) (hd : decode (mm_mb S μ) pc = .ok (.invokespecial i, 3)) (hm : mm_mn3 S μ a b w i = true) (hrf : mm_rf b st = true) (h : mm_cl S.1 (mm_run S.1 n) d μ pc a b ls st g = some r) : mm_Con S Y d μ pc ls st g r := by
  unfold mm_mn3 at hm
  simp only [Bool.and_eq_true, decide_eq_true_eq] at hm
  obtain ⟨ha, hkm, hw⟩ := hm
  cases d with
  | zero => cases h
  | succ d =>
  unfold mm_cl at h
  obtain ⟨⟨h1, h2, h3⟩, h⟩ := mm_if_some h
  split at h
  · rename_i q hq
    have hcq := ih _ _ _ _ _ _ _ hq
    obtain ⟨⟨⟨c1, c2⟩, hres⟩, -⟩ := hcq
    have hck := ih _ _ _ _ _ _ _ h
    obtain ⟨⟨⟨k1, k2⟩, k3⟩, -⟩ := hck
    have k1' : g.2.2.1 + q.2.2.2.1 ≤ r.2.2.2.1 := k1
    have k2' : g.2.2.2 + q.2.2.2.2 ≤ r.2.2.2.2 := k2
    refine ⟨⟨⟨by omega, by omega⟩, k3⟩, ?_⟩
    intro p l e R s m args below meth c Q hF hc hs H locs lsA φ hHR hB hL hLR hst hret
    obtain ⟨⟨hpl, hcode, hini, hy1, hy2⟩, ⟨hmx, hnm⟩, hr, hkind⟩ := hG.2.2.2.1.1 a ha
    rw [hkm] at hnm hkind
    have hlen : (st.take b).reverse.length = b := by rw [List.length_reverse, List.length_take]; omega
    have hall : ∀ w ∈ (st.take b).reverse, mm_ar w = true := fun w hw => List.all_eq_true.mp h3 w (List.mem_reverse.mp hw)
    have hlv : ∀ w ∈ (st.take b).reverse, mm_lv g.1 w := fun w hw => hst w (List.mem_of_mem_take (List.mem_reverse.mp hw))
    have hM := mm_met (Y := Y) (n := n) (d := d) (T := g.1) (V := g.2.1) (r := q) (vs := (st.take b).reverse) φ hG ih ha (by rw [hlen]; exact hq) hall (by rw [hlen]; exact hnm) hlv l
    obtain ⟨hx, hbb, hml, hown, hts, hin, hCK, ⟨hfr, hNK⟩, hlo⟩ := id hF
    rcases hkind with ⟨z, -⟩ | ⟨z, -⟩ | ⟨-, hpar, hinst, hname, hmr⟩
    · cases z
    · cases z
    · unfold mm_rf at hrf
      split at hrf
      · rename_i x hx2
        have hb1 : 1 ≤ b := by
          cases hp : parseMethodDescriptor (mm_mn S a).desc with
          | none => rw [hp] at hpar; cases hpar
          | some z => rw [hp] at hpar; have h9 : z.parameters.length + 1 = b := Option.some.inj hpar; omega
        obtain ⟨k, rfl⟩ : ∃ k, b = k + 1 := ⟨b - 1, by omega⟩
        rw [Nat.add_sub_cancel] at hx2
        have htk := mm_take_ref hx2
        have hvs : (st.take (k + 1)).reverse = .ref x :: (st.take k).reverse := by rw [htk, List.reverse_append]; rfl
        have hpar' : (parseMethodDescriptor (mm_mn S a).desc).map (fun d => d.parameters.length) = some k := by
          cases hp : parseMethodDescriptor (mm_mn S a).desc with
          | none => rw [hp] at hpar; cases hpar
          | some z => rw [hp] at hpar; have h9 : z.parameters.length + 1 = k + 1 := Option.some.inj hpar; exact congrArg some (show z.parameters.length = k by omega)
        rw [hvs] at hM
        have hcode' : mm_ws S a = Cond.code (mm_mn S a) (mm_mb S a) (mm_mx S.1 a) none :: mm_AL S := by show _ :: _ = _; rw [hmr]
        refine mm_after (a := (Value.ref (φ x) :: ((st.take k).reverse).map (mm_cv φ)).toArray) ih hres h hF hc hs hL hLR hst hret ?_
        refine va_runIN (host := "StackPolicyKernel") (cc := mm_mb S μ) (Ts := mm_AL S) (own := (mm_mn S μ).cls) (n := k) (b := φ x) (As := ((st.take k).reverse).map (mm_cv φ)) ⟨hx, hbb, hml, hown, hts⟩ hM
          ⟨va_cnB k hts (mm_goodin hG ha) hcode' rfl rfl (hNK _ (List.mem_of_getElem? hw)) (hts _ hini) ⟨hy1, hy2, hpar'⟩ ⟨hfr, by show 8 + (mm_mx S.1 a + 11) + 27 * d ≤ R.locals; omega⟩, hname, hts _ hinst⟩
          ⟨mm_blind hG.2.2.2.1.2, fun U hU hW => ⟨rfl, by rw [hU]; exact hHR.moved hW.alike, by rw [hU]; exact hB, hCK.moved hW.alike, hNK.warm hG.2.2.2.1.2 hW⟩⟩ rfl (by rw [List.length_map, List.length_reverse, List.length_take]; omega) hLR.1 ?_ ?_ hd ⟨Nat.le_trans k1' hc, Nat.le_trans k2' hs⟩
        · show st.map (mm_cv φ) = _
          rw [← List.map_reverse, List.reverse_reverse]
          conv => lhs; rw [← List.take_append_drop (k + 1) st, htk, List.map_append, List.map_append, List.append_assoc]
          rfl
        · show 2 * 0 + _ ≤ 8
          have := mm_catsum ((st.drop (k + 1)).map (mm_cv φ))
          rw [List.length_map] at this
          omega
      · cases hrf
  · cases h
end
section
theorem mm_new_lv {T : mm_T} {x kd len : Nat} (_ : T x = none) : mm_lv (mm_alT T x kd len) (.ref x) := by
  show mm_alT T x kd len x ≠ none
  unfold mm_alT
  rw [if_pos rfl]
  exact fun z => by cases z
theorem mm_new_cv {φ : Nat → Nat} {x q : Nat} : mm_cv (mm_fu φ x q) (.ref x) = .ref q := by
  show Value.ref (mm_fu φ x q x) = _
  unfold mm_fu
  rw [if_pos rfl]
/-! a case an instruction -/
theorem mm_dcs {S : mm_S} {μ pc n : Nat} {ins : Instr} (h : mm_dc S μ pc ins n = true) : decode (mm_mb S μ) pc = .ok (ins, n) := of_decide_eq_true h
theorem mm_and {a b : Bool} (h : (a && b) = true) : a = true ∧ b = true := by simpa using h
set_option maxHeartbeats 4000000 in
set_option maxRecDepth 20000 in
theorem mm_step {S : mm_S} {Y : mm_Y} {n : Nat} (hG : mm_Good S) (ih : mm_IH S Y n) : mm_IH S Y (n + 1) := by
  intro d μ pc ls st g r h
  change mm_stp S.1 (mm_run S.1 n) d μ pc ls st g = some r at h
  unfold mm_stp at h
  split at h
  · cases h
  rename_i ins a b w htb
  have hok := hG.1 _ _ _ htb
  cases ins with
  | iconst k =>
    have hk := h
    have hd := mm_dcs hok
    refine mm_one ih hk (Nat.le_refl _) (Nat.le_refl _) ?_
    intro p l e R s m args below meth c Q _ _ hN hF hc hs H locs lsA φ hHR hB hL hLR hst hret
    exact lv_iconst hF.1 hF.2.1 hd rfl (hN hF hc hs H locs lsA φ hHR hB hL hLR (mm_cc trivial hst) hret)
  | bipush k =>
    have hk := h
    have hv := of_decide_eq_true (mm_and hok).2
    have hd := mm_dcs (mm_and hok).1
    refine mm_one ih hk (Nat.le_refl _) (Nat.le_refl _) ?_
    intro p l e R s m args below meth c Q _ _ hN hF hc hs H locs lsA φ hHR hB hL hLR hst hret
    exact lv_bipush hF.1 hF.2.1 hd hv (hN hF hc hs H locs lsA φ hHR hB hL hLR (mm_cc trivial hst) hret)
  | sipush k =>
    have hk := h
    have hv := of_decide_eq_true (mm_and hok).2
    have hd := mm_dcs (mm_and hok).1
    refine mm_one ih hk (Nat.le_refl _) (Nat.le_refl _) ?_
    intro p l e R s m args below meth c Q _ _ hN hF hc hs H locs lsA φ hHR hB hL hLR hst hret
    exact lv_sipush hF.1 hF.2.1 hd hv (hN hF hc hs H locs lsA φ hHR hB hL hLR (mm_cc trivial hst) hret)
  | lconst k =>
    have hk := h
    have hd := mm_dcs hok
    refine mm_one ih hk (Nat.le_refl _) (Nat.le_refl _) ?_
    intro p l e R s m args below meth c Q _ _ hN hF hc hs H locs lsA φ hHR hB hL hLR hst hret
    exact lv_lconst hF.1 hF.2.1 hd rfl (hN hF hc hs H locs lsA φ hHR hB hL hLR (mm_cc trivial hst) hret)
  | iload i =>
    obtain ⟨x, hx, hk⟩ := mm_oi_some h
    have hd := mm_dcs hok
    refine mm_one ih hk (Nat.le_refl _) (Nat.le_refl _) ?_
    intro p l e R s m args below meth c Q _ _ hN hF hc hs H locs lsA φ hHR hB hL hLR hst hret
    exact lv_iload hF.1 hF.2.1 hd (hLR.at hx rfl) (hN hF hc hs H locs lsA φ hHR hB hL hLR (mm_cc trivial hst) hret)
  | iload_n i =>
    obtain ⟨x, hx, hk⟩ := mm_oi_some h
    have hd := mm_dcs hok
    refine mm_one ih hk (Nat.le_refl _) (Nat.le_refl _) ?_
    intro p l e R s m args below meth c Q _ _ hN hF hc hs H locs lsA φ hHR hB hL hLR hst hret
    exact lv_iload_n hF.1 hF.2.1 hd rfl (hLR.at hx rfl) (hN hF hc hs H locs lsA φ hHR hB hL hLR (mm_cc trivial hst) hret)
  | aload i =>
    obtain ⟨x, hx, hk⟩ := mm_or_some h
    have hd := mm_dcs hok
    refine mm_one ih hk (Nat.le_refl _) (Nat.le_refl _) ?_
    intro p l e R s m args below meth c Q _ _ hN hF hc hs H locs lsA φ hHR hB hL hLR hst hret
    exact lv_aload hF.1 hF.2.1 hd (hLR.at hx rfl) (hN hF hc hs H locs lsA φ hHR hB hL hLR (mm_cc (hLR.2.2.2.2 _ (List.mem_of_getElem? (mm_ld_some hx rfl))) hst) hret)
  | aload_n i =>
    obtain ⟨x, hx, hk⟩ := mm_or_some h
    have hd := mm_dcs hok
    refine mm_one ih hk (Nat.le_refl _) (Nat.le_refl _) ?_
    intro p l e R s m args below meth c Q _ _ hN hF hc hs H locs lsA φ hHR hB hL hLR hst hret
    exact lv_aload_n hF.1 hF.2.1 hd rfl (hLR.at hx rfl) (hN hF hc hs H locs lsA φ hHR hB hL hLR (mm_cc (hLR.2.2.2.2 _ (List.mem_of_getElem? (mm_ld_some hx rfl))) hst) hret)
  | lload i =>
    obtain ⟨x, hx, hk⟩ := mm_ol_some h
    have hd := mm_dcs hok
    refine mm_one ih hk (Nat.le_refl _) (Nat.le_refl _) ?_
    intro p l e R s m args below meth c Q _ _ hN hF hc hs H locs lsA φ hHR hB hL hLR hst hret
    exact lv_lload hF.1 hF.2.1 hd (hLR.at hx rfl) (hN hF hc hs H locs lsA φ hHR hB hL hLR (mm_cc trivial hst) hret)
  | lload_n i =>
    obtain ⟨x, hx, hk⟩ := mm_ol_some h
    have hd := mm_dcs hok
    refine mm_one ih hk (Nat.le_refl _) (Nat.le_refl _) ?_
    intro p l e R s m args below meth c Q _ _ hN hF hc hs H locs lsA φ hHR hB hL hLR hst hret
    exact lv_lload_n hF.1 hF.2.1 hd rfl (hLR.at hx rfl) (hN hF hc hs H locs lsA φ hHR hB hL hLR (mm_cc trivial hst) hret)
  | istore i =>
    obtain ⟨x, t, rfl, hk⟩ := mm_i1_some h
    obtain ⟨hso, hk⟩ := mm_if_some hk
    have hd := mm_dcs hok
    refine mm_one ih hk (Nat.le_refl _) (Nat.le_refl _) ?_
    intro p l e R s m args below meth c Q _ _ hN hF hc hs H locs lsA φ hHR hB hL hLR hst hret
    exact lv_istore hF.1 hF.2.1 hd hLR.has (by have h1 := mm_so_len hso; have h2 := hLR.2.1; omega) rfl (fun ls' h' => hN hF hc hs H locs ls' φ hHR hB hL (mm_LR.set1 (v := .int x) hLR hso trivial h') (mm_t1 hst) hret)
  | istore_n i =>
    obtain ⟨x, t, rfl, hk⟩ := mm_i1_some h
    obtain ⟨hso, hk⟩ := mm_if_some hk
    have hd := mm_dcs hok
    refine mm_one ih hk (Nat.le_refl _) (Nat.le_refl _) ?_
    intro p l e R s m args below meth c Q _ _ hN hF hc hs H locs lsA φ hHR hB hL hLR hst hret
    exact lv_istore_n hF.1 hF.2.1 hd rfl hLR.has (by have h1 := mm_so_len hso; have h2 := hLR.2.1; omega) rfl (fun ls' h' => hN hF hc hs H locs ls' φ hHR hB hL (mm_LR.set1 (v := .int x) hLR hso trivial h') (mm_t1 hst) hret)
  | astore i =>
    obtain ⟨x, t, rfl, hk⟩ := mm_r1_some h
    obtain ⟨hso, hk⟩ := mm_if_some hk
    have hd := mm_dcs hok
    refine mm_one ih hk (Nat.le_refl _) (Nat.le_refl _) ?_
    intro p l e R s m args below meth c Q _ _ hN hF hc hs H locs lsA φ hHR hB hL hLR hst hret
    exact lv_astore hF.1 hF.2.1 hd hLR.has (by have h1 := mm_so_len hso; have h2 := hLR.2.1; omega) rfl (fun ls' h' => hN hF hc hs H locs ls' φ hHR hB hL (mm_LR.set1 (v := .ref x) hLR hso (mm_h1 hst) h') (mm_t1 hst) hret)
  | astore_n i =>
    obtain ⟨x, t, rfl, hk⟩ := mm_r1_some h
    obtain ⟨hso, hk⟩ := mm_if_some hk
    have hd := mm_dcs hok
    refine mm_one ih hk (Nat.le_refl _) (Nat.le_refl _) ?_
    intro p l e R s m args below meth c Q _ _ hN hF hc hs H locs lsA φ hHR hB hL hLR hst hret
    exact lv_astore_n hF.1 hF.2.1 hd rfl hLR.has (by have h1 := mm_so_len hso; have h2 := hLR.2.1; omega) rfl (fun ls' h' => hN hF hc hs H locs ls' φ hHR hB hL (mm_LR.set1 (v := .ref x) hLR hso (mm_h1 hst) h') (mm_t1 hst) hret)
  | lstore i =>
    obtain ⟨x, t, rfl, hk⟩ := mm_l1_some h
    obtain ⟨hso, hk⟩ := mm_if_some hk
    have hd := mm_dcs hok
    refine mm_one ih hk (Nat.le_refl _) (Nat.le_refl _) ?_
    intro p l e R s m args below meth c Q _ _ hN hF hc hs H locs lsA φ hHR hB hL hLR hst hret
    exact lv_lstore hF.1 hF.2.1 hd hLR.has (by have h1 := mm_so_len hso; have h2 := hLR.2.1; omega) rfl (fun ls' h' => hN hF hc hs H locs ls' φ hHR hB hL (mm_LR.set2 (v := .long x) hLR hso trivial h') (mm_t1 hst) hret)
  | lstore_n i =>
    obtain ⟨x, t, rfl, hk⟩ := mm_l1_some h
    obtain ⟨hso, hk⟩ := mm_if_some hk
    have hd := mm_dcs hok
    refine mm_one ih hk (Nat.le_refl _) (Nat.le_refl _) ?_
    intro p l e R s m args below meth c Q _ _ hN hF hc hs H locs lsA φ hHR hB hL hLR hst hret
    exact lv_lstore_n hF.1 hF.2.1 hd rfl hLR.has (by have h1 := mm_so_len hso; have h2 := hLR.2.1; omega) rfl (fun ls' h' => hN hF hc hs H locs ls' φ hHR hB hL (mm_LR.set2 (v := .long x) hLR hso trivial h') (mm_t1 hst) hret)
  | iinc i k =>
    obtain ⟨x, hx, hk⟩ := mm_oi_some h
    obtain ⟨hso, hk⟩ := mm_if_some hk
    have hd := mm_dcs hok
    refine mm_one ih hk (Nat.le_refl _) (Nat.le_refl _) ?_
    intro p l e R s m args below meth c Q _ _ hN hF hc hs H locs lsA φ hHR hB hL hLR hst hret
    obtain ⟨q, hq⟩ := List.getElem?_of_mem (mm_as_mem (φ := φ) (mm_ld_some hx rfl) rfl)
    exact lv_iinc (k := q) hF.1 hF.2.1 hd hLR.has hq rfl (by have h1 := mm_so_len hso; have h2 := hLR.2.1; omega) rfl (fun ls' h' => hN hF hc hs H locs ls' φ hHR hB hL (mm_LR.set1 (v := .int (x + Int32.ofInt k)) hLR hso trivial h') hst hret)
  | iadd =>
    obtain ⟨x, y, t, rfl, hk⟩ := mm_i2_some h
    have hd := mm_dcs hok
    refine mm_one ih hk (Nat.le_refl _) (Nat.le_refl _) ?_
    intro p l e R s m args below meth c Q _ _ hN hF hc hs H locs lsA φ hHR hB hL hLR hst hret
    exact lv_iadd hF.1 hF.2.1 hd (hN hF hc hs H locs lsA φ hHR hB hL hLR (mm_cc trivial (mm_t1 (mm_t1 hst))) hret)
  | isub =>
    obtain ⟨x, y, t, rfl, hk⟩ := mm_i2_some h
    have hd := mm_dcs hok
    refine mm_one ih hk (Nat.le_refl _) (Nat.le_refl _) ?_
    intro p l e R s m args below meth c Q _ _ hN hF hc hs H locs lsA φ hHR hB hL hLR hst hret
    exact lv_isub hF.1 hF.2.1 hd (hN hF hc hs H locs lsA φ hHR hB hL hLR (mm_cc trivial (mm_t1 (mm_t1 hst))) hret)
  | imul =>
    obtain ⟨x, y, t, rfl, hk⟩ := mm_i2_some h
    have hd := mm_dcs hok
    refine mm_one ih hk (Nat.le_refl _) (Nat.le_refl _) ?_
    intro p l e R s m args below meth c Q _ _ hN hF hc hs H locs lsA φ hHR hB hL hLR hst hret
    exact lv_imul hF.1 hF.2.1 hd (hN hF hc hs H locs lsA φ hHR hB hL hLR (mm_cc trivial (mm_t1 (mm_t1 hst))) hret)
  | iand =>
    obtain ⟨x, y, t, rfl, hk⟩ := mm_i2_some h
    have hd := mm_dcs hok
    refine mm_one ih hk (Nat.le_refl _) (Nat.le_refl _) ?_
    intro p l e R s m args below meth c Q _ _ hN hF hc hs H locs lsA φ hHR hB hL hLR hst hret
    exact lv_iand hF.1 hF.2.1 hd (hN hF hc hs H locs lsA φ hHR hB hL hLR (mm_cc trivial (mm_t1 (mm_t1 hst))) hret)
  | i2l =>
    obtain ⟨x, t, rfl, hk⟩ := mm_i1_some h
    have hd := mm_dcs hok
    refine mm_one ih hk (Nat.le_refl _) (Nat.le_refl _) ?_
    intro p l e R s m args below meth c Q _ _ hN hF hc hs H locs lsA φ hHR hB hL hLR hst hret
    exact lv_i2l hF.1 hF.2.1 hd rfl (hN hF hc hs H locs lsA φ hHR hB hL hLR (mm_cc trivial (mm_t1 hst)) hret)
  | ladd =>
    obtain ⟨x, y, t, rfl, hk⟩ := mm_l2_some h
    have hd := mm_dcs hok
    refine mm_one ih hk (Nat.le_refl _) (Nat.le_refl _) ?_
    intro p l e R s m args below meth c Q _ _ hN hF hc hs H locs lsA φ hHR hB hL hLR hst hret
    exact lv_ladd hF.1 hF.2.1 hd (hN hF hc hs H locs lsA φ hHR hB hL hLR (mm_cc trivial (mm_t1 (mm_t1 hst))) hret)
  | lsub =>
    obtain ⟨x, y, t, rfl, hk⟩ := mm_l2_some h
    have hd := mm_dcs hok
    refine mm_one ih hk (Nat.le_refl _) (Nat.le_refl _) ?_
    intro p l e R s m args below meth c Q _ _ hN hF hc hs H locs lsA φ hHR hB hL hLR hst hret
    exact lv_lsub hF.1 hF.2.1 hd (hN hF hc hs H locs lsA φ hHR hB hL hLR (mm_cc trivial (mm_t1 (mm_t1 hst))) hret)
  | lmul =>
    obtain ⟨x, y, t, rfl, hk⟩ := mm_l2_some h
    have hd := mm_dcs hok
    refine mm_one ih hk (Nat.le_refl _) (Nat.le_refl _) ?_
    intro p l e R s m args below meth c Q _ _ hN hF hc hs H locs lsA φ hHR hB hL hLR hst hret
    exact lv_lmul hF.1 hF.2.1 hd (hN hF hc hs H locs lsA φ hHR hB hL hLR (mm_cc trivial (mm_t1 (mm_t1 hst))) hret)
  | ldiv =>
    obtain ⟨x, y, t, rfl, hk⟩ := mm_l2_some h
    obtain ⟨hne, hk⟩ := mm_if_none hk
    have hd := mm_dcs hok
    refine mm_one ih hk (Nat.le_refl _) (Nat.le_refl _) ?_
    intro p l e R s m args below meth c Q _ _ hN hF hc hs H locs lsA φ hHR hB hL hLR hst hret
    exact lv_ldiv hF.1 hF.2.1 hd hne (hN hF hc hs H locs lsA φ hHR hB hL hLR (mm_cc trivial (mm_t1 (mm_t1 hst))) hret)
  | lcmp =>
    obtain ⟨x, y, t, rfl, hk⟩ := mm_l2_some h
    have hd := mm_dcs hok
    refine mm_one ih hk (Nat.le_refl _) (Nat.le_refl _) ?_
    intro p l e R s m args below meth c Q _ _ hN hF hc hs H locs lsA φ hHR hB hL hLR hst hret
    exact W.lcmp hF.1 hF.2.1 hd (hN hF hc hs H locs lsA φ hHR hB hL hLR (mm_cc trivial (mm_t1 (mm_t1 hst))) hret)
  | dup =>
    obtain ⟨v, t, rfl, hk⟩ := mm_v1_some h
    obtain ⟨hv, hk⟩ := mm_if_some hk
    have hd := mm_dcs hok
    refine mm_one ih hk (Nat.le_refl _) (Nat.le_refl _) ?_
    intro p l e R s m args below meth c Q _ _ hN hF hc hs H locs lsA φ hHR hB hL hLR hst hret
    exact lv_dup hF.1 hF.2.1 hd (mm_cat.trans (of_decide_eq_true hv)) (hN hF hc hs H locs lsA φ hHR hB hL hLR (mm_cc (mm_h1 hst) hst) hret)
  | dup2 =>
    obtain ⟨v, w, t, rfl, hk⟩ := mm_v2_some h
    obtain ⟨⟨hv, hw⟩, hk⟩ := mm_if_some hk
    have hd := mm_dcs hok
    refine mm_one ih hk (Nat.le_refl _) (Nat.le_refl _) ?_
    intro p l e R s m args below meth c Q _ _ hN hF hc hs H locs lsA φ hHR hB hL hLR hst hret
    exact lv_dup2_11 hF.1 hF.2.1 hd (mm_cat.trans (of_decide_eq_true hv)) (mm_cat.trans (of_decide_eq_true hw)) (hN hF hc hs H locs lsA φ hHR hB hL hLR (mm_cc (mm_h1 hst) (mm_cc (mm_h1 (mm_t1 hst)) hst)) hret)
  | ifCond q o =>
    have hd := mm_dcs (mm_and hok).1
    have ht := of_decide_eq_true (mm_and hok).2
    cases q with
    | eq =>
      obtain ⟨x, t, rfl, hk⟩ := mm_i1_some h
      by_cases hq : x = 0
      · rw [if_pos hq] at hk
        refine mm_one ih hk (Nat.le_refl _) (Nat.le_refl _) ?_
        intro p l e R s m args below meth c Q _ _ hN hF hc hs H locs lsA φ hHR hB hL hLR hst hret
        have KK := hN hF hc hs H locs lsA φ hHR hB hL hLR (mm_t1 hst) hret
        exact lv_if_eq hF.1 hF.2.1 hd ht (fun _ => KK) (fun z => absurd hq z)
      · rw [if_neg hq] at hk
        refine mm_one ih hk (Nat.le_refl _) (Nat.le_refl _) ?_
        intro p l e R s m args below meth c Q _ _ hN hF hc hs H locs lsA φ hHR hB hL hLR hst hret
        have KK := hN hF hc hs H locs lsA φ hHR hB hL hLR (mm_t1 hst) hret
        exact lv_if_eq hF.1 hF.2.1 hd ht (fun z => absurd z hq) (fun _ => KK)
    | ne =>
      obtain ⟨x, t, rfl, hk⟩ := mm_i1_some h
      by_cases hq : ¬ x = 0
      · rw [if_pos hq] at hk
        refine mm_one ih hk (Nat.le_refl _) (Nat.le_refl _) ?_
        intro p l e R s m args below meth c Q _ _ hN hF hc hs H locs lsA φ hHR hB hL hLR hst hret
        have KK := hN hF hc hs H locs lsA φ hHR hB hL hLR (mm_t1 hst) hret
        exact lv_if_ne hF.1 hF.2.1 hd ht (fun _ => KK) (fun z => absurd z hq)
      · rw [if_neg hq] at hk
        refine mm_one ih hk (Nat.le_refl _) (Nat.le_refl _) ?_
        intro p l e R s m args below meth c Q _ _ hN hF hc hs H locs lsA φ hHR hB hL hLR hst hret
        have KK := hN hF hc hs H locs lsA φ hHR hB hL hLR (mm_t1 hst) hret
        exact lv_if_ne hF.1 hF.2.1 hd ht (fun z => absurd z hq) (fun _ => KK)
    | lt =>
      obtain ⟨x, t, rfl, hk⟩ := mm_i1_some h
      by_cases hq : x < 0
      · rw [if_pos hq] at hk
        refine mm_one ih hk (Nat.le_refl _) (Nat.le_refl _) ?_
        intro p l e R s m args below meth c Q _ _ hN hF hc hs H locs lsA φ hHR hB hL hLR hst hret
        have KK := hN hF hc hs H locs lsA φ hHR hB hL hLR (mm_t1 hst) hret
        exact lv_if_lt hF.1 hF.2.1 hd ht (fun _ => KK) (fun z => absurd hq z)
      · rw [if_neg hq] at hk
        refine mm_one ih hk (Nat.le_refl _) (Nat.le_refl _) ?_
        intro p l e R s m args below meth c Q _ _ hN hF hc hs H locs lsA φ hHR hB hL hLR hst hret
        have KK := hN hF hc hs H locs lsA φ hHR hB hL hLR (mm_t1 hst) hret
        exact lv_if_lt hF.1 hF.2.1 hd ht (fun z => absurd z hq) (fun _ => KK)
    | ge =>
      obtain ⟨x, t, rfl, hk⟩ := mm_i1_some h
      by_cases hq : 0 ≤ x
      · rw [if_pos hq] at hk
        refine mm_one ih hk (Nat.le_refl _) (Nat.le_refl _) ?_
        intro p l e R s m args below meth c Q _ _ hN hF hc hs H locs lsA φ hHR hB hL hLR hst hret
        have KK := hN hF hc hs H locs lsA φ hHR hB hL hLR (mm_t1 hst) hret
        exact lv_if_ge hF.1 hF.2.1 hd ht (fun _ => KK) (fun z => absurd hq z)
      · rw [if_neg hq] at hk
        refine mm_one ih hk (Nat.le_refl _) (Nat.le_refl _) ?_
        intro p l e R s m args below meth c Q _ _ hN hF hc hs H locs lsA φ hHR hB hL hLR hst hret
        have KK := hN hF hc hs H locs lsA φ hHR hB hL hLR (mm_t1 hst) hret
        exact lv_if_ge hF.1 hF.2.1 hd ht (fun z => absurd z hq) (fun _ => KK)
    | gt =>
      obtain ⟨x, t, rfl, hk⟩ := mm_i1_some h
      by_cases hq : 0 < x
      · rw [if_pos hq] at hk
        refine mm_one ih hk (Nat.le_refl _) (Nat.le_refl _) ?_
        intro p l e R s m args below meth c Q _ _ hN hF hc hs H locs lsA φ hHR hB hL hLR hst hret
        have KK := hN hF hc hs H locs lsA φ hHR hB hL hLR (mm_t1 hst) hret
        exact lv_if_gt hF.1 hF.2.1 hd ht (fun _ => KK) (fun z => absurd hq z)
      · rw [if_neg hq] at hk
        refine mm_one ih hk (Nat.le_refl _) (Nat.le_refl _) ?_
        intro p l e R s m args below meth c Q _ _ hN hF hc hs H locs lsA φ hHR hB hL hLR hst hret
        have KK := hN hF hc hs H locs lsA φ hHR hB hL hLR (mm_t1 hst) hret
        exact lv_if_gt hF.1 hF.2.1 hd ht (fun z => absurd z hq) (fun _ => KK)
    | le =>
      obtain ⟨x, t, rfl, hk⟩ := mm_i1_some h
      by_cases hq : x ≤ 0
      · rw [if_pos hq] at hk
        refine mm_one ih hk (Nat.le_refl _) (Nat.le_refl _) ?_
        intro p l e R s m args below meth c Q _ _ hN hF hc hs H locs lsA φ hHR hB hL hLR hst hret
        have KK := hN hF hc hs H locs lsA φ hHR hB hL hLR (mm_t1 hst) hret
        exact lv_if_le hF.1 hF.2.1 hd ht (fun _ => KK) (fun z => absurd hq z)
      · rw [if_neg hq] at hk
        refine mm_one ih hk (Nat.le_refl _) (Nat.le_refl _) ?_
        intro p l e R s m args below meth c Q _ _ hN hF hc hs H locs lsA φ hHR hB hL hLR hst hret
        have KK := hN hF hc hs H locs lsA φ hHR hB hL hLR (mm_t1 hst) hret
        exact lv_if_le hF.1 hF.2.1 hd ht (fun z => absurd z hq) (fun _ => KK)
  | if_icmp q o =>
    have hd := mm_dcs (mm_and hok).1
    have ht := of_decide_eq_true (mm_and hok).2
    cases q with
    | eq =>
      obtain ⟨x, y, t, rfl, hk⟩ := mm_i2_some h
      by_cases hq : x = y
      · rw [if_pos hq] at hk
        refine mm_one ih hk (Nat.le_refl _) (Nat.le_refl _) ?_
        intro p l e R s m args below meth c Q _ _ hN hF hc hs H locs lsA φ hHR hB hL hLR hst hret
        have KK := hN hF hc hs H locs lsA φ hHR hB hL hLR (mm_t1 (mm_t1 hst)) hret
        exact lv_icmp_eq hF.1 hF.2.1 hd ht (fun _ => KK) (fun z => absurd hq z)
      · rw [if_neg hq] at hk
        refine mm_one ih hk (Nat.le_refl _) (Nat.le_refl _) ?_
        intro p l e R s m args below meth c Q _ _ hN hF hc hs H locs lsA φ hHR hB hL hLR hst hret
        have KK := hN hF hc hs H locs lsA φ hHR hB hL hLR (mm_t1 (mm_t1 hst)) hret
        exact lv_icmp_eq hF.1 hF.2.1 hd ht (fun z => absurd z hq) (fun _ => KK)
    | ne =>
      obtain ⟨x, y, t, rfl, hk⟩ := mm_i2_some h
      by_cases hq : ¬ x = y
      · rw [if_pos hq] at hk
        refine mm_one ih hk (Nat.le_refl _) (Nat.le_refl _) ?_
        intro p l e R s m args below meth c Q _ _ hN hF hc hs H locs lsA φ hHR hB hL hLR hst hret
        have KK := hN hF hc hs H locs lsA φ hHR hB hL hLR (mm_t1 (mm_t1 hst)) hret
        exact lv_icmp_ne hF.1 hF.2.1 hd ht (fun _ => KK) (fun z => absurd z hq)
      · rw [if_neg hq] at hk
        refine mm_one ih hk (Nat.le_refl _) (Nat.le_refl _) ?_
        intro p l e R s m args below meth c Q _ _ hN hF hc hs H locs lsA φ hHR hB hL hLR hst hret
        have KK := hN hF hc hs H locs lsA φ hHR hB hL hLR (mm_t1 (mm_t1 hst)) hret
        exact lv_icmp_ne hF.1 hF.2.1 hd ht (fun z => absurd z hq) (fun _ => KK)
    | lt =>
      obtain ⟨x, y, t, rfl, hk⟩ := mm_i2_some h
      by_cases hq : x < y
      · rw [if_pos hq] at hk
        refine mm_one ih hk (Nat.le_refl _) (Nat.le_refl _) ?_
        intro p l e R s m args below meth c Q _ _ hN hF hc hs H locs lsA φ hHR hB hL hLR hst hret
        have KK := hN hF hc hs H locs lsA φ hHR hB hL hLR (mm_t1 (mm_t1 hst)) hret
        exact lv_icmp_lt hF.1 hF.2.1 hd ht (fun _ => KK) (fun z => absurd hq z)
      · rw [if_neg hq] at hk
        refine mm_one ih hk (Nat.le_refl _) (Nat.le_refl _) ?_
        intro p l e R s m args below meth c Q _ _ hN hF hc hs H locs lsA φ hHR hB hL hLR hst hret
        have KK := hN hF hc hs H locs lsA φ hHR hB hL hLR (mm_t1 (mm_t1 hst)) hret
        exact lv_icmp_lt hF.1 hF.2.1 hd ht (fun z => absurd z hq) (fun _ => KK)
    | ge =>
      obtain ⟨x, y, t, rfl, hk⟩ := mm_i2_some h
      by_cases hq : y ≤ x
      · rw [if_pos hq] at hk
        refine mm_one ih hk (Nat.le_refl _) (Nat.le_refl _) ?_
        intro p l e R s m args below meth c Q _ _ hN hF hc hs H locs lsA φ hHR hB hL hLR hst hret
        have KK := hN hF hc hs H locs lsA φ hHR hB hL hLR (mm_t1 (mm_t1 hst)) hret
        exact lv_icmp_ge hF.1 hF.2.1 hd ht (fun _ => KK) (fun z => absurd hq z)
      · rw [if_neg hq] at hk
        refine mm_one ih hk (Nat.le_refl _) (Nat.le_refl _) ?_
        intro p l e R s m args below meth c Q _ _ hN hF hc hs H locs lsA φ hHR hB hL hLR hst hret
        have KK := hN hF hc hs H locs lsA φ hHR hB hL hLR (mm_t1 (mm_t1 hst)) hret
        exact lv_icmp_ge hF.1 hF.2.1 hd ht (fun z => absurd z hq) (fun _ => KK)
    | gt =>
      obtain ⟨x, y, t, rfl, hk⟩ := mm_i2_some h
      by_cases hq : y < x
      · rw [if_pos hq] at hk
        refine mm_one ih hk (Nat.le_refl _) (Nat.le_refl _) ?_
        intro p l e R s m args below meth c Q _ _ hN hF hc hs H locs lsA φ hHR hB hL hLR hst hret
        have KK := hN hF hc hs H locs lsA φ hHR hB hL hLR (mm_t1 (mm_t1 hst)) hret
        exact lv_icmp_gt hF.1 hF.2.1 hd ht (fun _ => KK) (fun z => absurd hq z)
      · rw [if_neg hq] at hk
        refine mm_one ih hk (Nat.le_refl _) (Nat.le_refl _) ?_
        intro p l e R s m args below meth c Q _ _ hN hF hc hs H locs lsA φ hHR hB hL hLR hst hret
        have KK := hN hF hc hs H locs lsA φ hHR hB hL hLR (mm_t1 (mm_t1 hst)) hret
        exact lv_icmp_gt hF.1 hF.2.1 hd ht (fun z => absurd z hq) (fun _ => KK)
    | le =>
      obtain ⟨x, y, t, rfl, hk⟩ := mm_i2_some h
      by_cases hq : x ≤ y
      · rw [if_pos hq] at hk
        refine mm_one ih hk (Nat.le_refl _) (Nat.le_refl _) ?_
        intro p l e R s m args below meth c Q _ _ hN hF hc hs H locs lsA φ hHR hB hL hLR hst hret
        have KK := hN hF hc hs H locs lsA φ hHR hB hL hLR (mm_t1 (mm_t1 hst)) hret
        exact lv_icmp_le hF.1 hF.2.1 hd ht (fun _ => KK) (fun z => absurd hq z)
      · rw [if_neg hq] at hk
        refine mm_one ih hk (Nat.le_refl _) (Nat.le_refl _) ?_
        intro p l e R s m args below meth c Q _ _ hN hF hc hs H locs lsA φ hHR hB hL hLR hst hret
        have KK := hN hF hc hs H locs lsA φ hHR hB hL hLR (mm_t1 (mm_t1 hst)) hret
        exact lv_icmp_le hF.1 hF.2.1 hd ht (fun z => absurd z hq) (fun _ => KK)
  | goto o =>
    have hk := h
    have ht := of_decide_eq_true (mm_and hok).2
    have hd := mm_dcs (mm_and hok).1
    refine mm_one ih hk (Nat.le_refl _) (Nat.le_refl _) ?_
    intro p l e R s m args below meth c Q _ _ hN hF hc hs H locs lsA φ hHR hB hL hLR hst hret
    exact lv_goto hF.1 hF.2.1 hd ht (hN hF hc hs H locs lsA φ hHR hB hL hLR hst hret)
  | tableswitch df lo hi offs =>
    have hd := mm_dcs hok
    obtain ⟨x, t, rfl, hk⟩ := mm_i1_some h
    obtain ⟨off, tgt, ho, ht, hk⟩ := mm_go_some hk
    refine mm_one ih hk (Nat.le_refl _) (Nat.le_refl _) ?_
    intro p l e R s m args below meth c Q _ _ hN hF hc hs H locs lsA φ hHR hB hL hLR hst hret
    have KK := hN hF hc hs H locs lsA φ hHR hB hL hLR (mm_t1 hst) hret
    by_cases hq : x.toInt < lo ∨ hi < x.toInt
    · rw [if_pos hq] at ho
      cases ho
      exact lv_tableOut hF.1 hF.2.1 hd hq ht KK
    · rw [if_neg hq] at ho
      exact lv_tableIn hF.1 hF.2.1 hd (fun z => hq (Or.inl z)) (fun z => hq (Or.inr z)) ho ht KK
  | getfield i =>
    obtain ⟨x, t, rfl, hk⟩ := mm_r1_some h
    obtain ⟨hT, hk⟩ := mm_if_some hk
    have hd := mm_dcs (mm_and hok).1
    have hf := (mm_and hok).2
    refine mm_one ih hk (Nat.le_refl _) (Nat.le_refl _) ?_
    intro p l e R s m args below meth c Q _ _ hN hF hc hs H locs lsA φ hHR hB hL hLR hst hret
    have hb : b < mm_sl S.1 a := of_decide_eq_true (mm_and (mm_and hf).2).1
    exact mm_Wget hG hF hHR hd hf hT (hN hF hc hs H locs lsA φ hHR hB hL hLR (mm_cc ((hHR.1 _ _ _ hT).2.2.2 b hb) (mm_t1 hst)) hret)
  | putfield i =>
    obtain ⟨v, x, t, rfl, hk⟩ := mm_vr_some h
    obtain ⟨⟨hT, hfit⟩, hk⟩ := mm_if_some hk
    have hd := mm_dcs (mm_and hok).1
    have hf := (mm_and (mm_and hok).2).1
    have hfin : ((mm_ck S a).2.1 b).2.2.2 = false ∨ (((mm_ck S a).2.1 b).2.2.2 = true ∧ (mm_mn S μ).name = "<init>" ∧ ((mm_ck S a).2.1 b).1 = (mm_mn S μ).cls) := by
      have h2 := (mm_and (mm_and hok).2).2
      simp only [Bool.or_eq_true, Bool.and_eq_true, decide_eq_true_eq] at h2
      exact h2
    refine mm_one ih hk (Nat.le_refl _) (Nat.le_refl _) ?_
    intro p l e R s m args below meth c Q _ _ hN hF hc hs H locs lsA φ hHR hB hL hLR hst hret
    have ha : a < mm_nc S := of_decide_eq_true (mm_and hf).1
    refine mm_Wput hG hF hHR hd hf hfin hT hfit (mm_h1 hst) (fun H1 k hHR1 hz => ?_)
    refine hN hF hc hs H1 _ lsA φ hHR1 (by rw [hz]; exact hB) (fun q hq => ?_) hLR (mm_t1 (mm_t1 hst)) hret
    rcases List.mem_append.mp hq with h1 | h1
    · exact hL q h1
    · rw [List.mem_singleton.mp h1]
      exact (hHR.1 _ _ _ hT).2.2.1 (by have := hG.2.2.1.1; omega)
  | iaload =>
    obtain ⟨j, x, t, rfl, hk⟩ := mm_ir_some h
    obtain ⟨hi, hk⟩ := mm_if_some hk
    have hd := mm_dcs hok
    refine mm_one ih hk (Nat.le_refl _) (Nat.le_refl _) ?_
    intro p l e R s m args below meth c Q _ _ hN hF hc hs H locs lsA φ hHR hB hL hLR hst hret
    obtain ⟨kd, len, hT, -, -, -, hl⟩ := mm_in_some hi
    exact mm_Wiald hF hHR hd hi (hN hF hc hs H locs lsA φ hHR hB hL hLR (mm_cc ((hHR.1 _ _ _ hT).2.2.2 _ hl) (mm_t1 (mm_t1 hst))) hret)
  | aaload =>
    obtain ⟨j, x, t, rfl, hk⟩ := mm_ir_some h
    obtain ⟨hi, hk⟩ := mm_if_some hk
    have hd := mm_dcs hok
    refine mm_one ih hk (Nat.le_refl _) (Nat.le_refl _) ?_
    intro p l e R s m args below meth c Q _ _ hN hF hc hs H locs lsA φ hHR hB hL hLR hst hret
    obtain ⟨kd, len, hT, -, -, -, hl⟩ := mm_in_some hi
    exact mm_Waald hF hHR hd hi (hN hF hc hs H locs lsA φ hHR hB hL hLR (mm_cc ((hHR.1 _ _ _ hT).2.2.2 _ hl) (mm_t1 (mm_t1 hst))) hret)
  | iastore =>
    obtain ⟨v, j, x, t, rfl, hk⟩ := mm_iir_some h
    obtain ⟨hi, hk⟩ := mm_if_some hk
    have hd := mm_dcs hok
    refine mm_one ih hk (Nat.le_refl _) (Nat.le_refl _) ?_
    intro p l e R s m args below meth c Q _ _ hN hF hc hs H locs lsA φ hHR hB hL hLR hst hret
    obtain ⟨kd, len, hT, h1, h2, -, hl⟩ := mm_in_some hi
    refine mm_Wiast hF hHR hd hi (fun H1 k hHR1 hz => ?_)
    refine hN hF hc hs H1 _ lsA φ hHR1 (by rw [hz]; exact hB) (fun q hq => ?_) hLR (mm_t1 (mm_t1 (mm_t1 hst))) hret
    rcases List.mem_append.mp hq with h1 | h1
    · exact hL q h1
    · rw [List.mem_singleton.mp h1]
      exact (hHR.1 _ _ _ hT).2.2.1 (by omega)
  | aastore =>
    obtain ⟨v, j, x, t, rfl, hk⟩ := mm_rir_some h
    obtain ⟨⟨hi, hv⟩, hk⟩ := mm_if_some hk
    have hd := mm_dcs (mm_and hok).1
    have ha : a = 102 ∨ a = 103 := by simpa using (mm_and (mm_and hok).2).1
    have hb := of_decide_eq_true (mm_and (mm_and (mm_and hok).2).2).1
    have hbn := of_decide_eq_true (mm_and (mm_and (mm_and hok).2).2).2
    refine mm_one ih hk (Nat.le_refl _) (Nat.le_refl _) ?_
    intro p l e R s m args below meth c Q _ _ hN hF hc hs H locs lsA φ hHR hB hL hLR hst hret
    obtain ⟨kd, len, hT, h1, h2, -, hl⟩ := mm_in_some hi
    refine mm_Waast hG hF hHR hd ha hb hbn hi hv (fun H1 k hHR1 hz => ?_)
    refine hN hF hc hs H1 _ lsA φ hHR1 (by rw [hz]; exact hB) (fun q hq => ?_) hLR (mm_t1 (mm_t1 (mm_t1 hst))) hret
    rcases List.mem_append.mp hq with h1 | h1
    · exact hL q h1
    · rw [List.mem_singleton.mp h1]
      exact (hHR.1 _ _ _ hT).2.2.1 (by omega)
  | arraylength =>
    obtain ⟨x, t, rfl, hk⟩ := mm_r1_some h
    obtain ⟨kd, len, hT, h1, h2, hk⟩ := mm_ln_some hk
    have hd := mm_dcs hok
    refine mm_one ih hk (Nat.le_refl _) (Nat.le_refl _) ?_
    intro p l e R s m args below meth c Q _ _ hN hF hc hs H locs lsA φ hHR hB hL hLR hst hret
    exact mm_Walen hF hHR hd hT h1 h2 (hN hF hc hs H locs lsA φ hHR hB hL hLR (mm_cc trivial (mm_t1 hst)) hret)
  | new i =>
    obtain ⟨hT, hk⟩ := mm_if_some h
    have hd := mm_dcs (mm_and hok).1
    have ha := of_decide_eq_true (mm_and (mm_and hok).2).1
    have hw := of_decide_eq_true (mm_and (mm_and hok).2).2
    refine mm_one ih hk (Nat.le_succ _) (Nat.le_add_right _ _) ?_
    intro p l e R s m args below meth c Q hc1 hs1 hN hF hc hs H locs lsA φ hHR hB hL hLR hst hret
    refine mm_Wnew hG hF hHR hB hd ha hw hT (Nat.le_trans hc1 hc) (Nat.le_trans hs1 hs) (fun H1 hHR1 hz => ?_)
    have hE := mm_new_ext (φ := φ) (q := H.size) (kd := a) (len := mm_sl S.1 a) hT
    have KK := hN hF hc hs H1 locs lsA _ hHR1 (by rw [hz]; omega) hL (hLR.ext hE) (mm_cc (mm_new_lv hT) (fun v hv => mm_lv_ext hE (hst v hv))) (hret.ext hE)
    rw [List.map_cons, mm_map_ext hE hst, mm_new_cv] at KK
    exact KK
  | newarray ty =>
    obtain ⟨k, t, rfl, hk⟩ := mm_i1_some h
    obtain ⟨⟨hT, h0, h1⟩, hk⟩ := mm_if_some hk
    have hd := mm_dcs (mm_and hok).1
    have hty := of_decide_eq_true (mm_and hok).2
    subst hty
    refine mm_one ih hk (Nat.le_succ _) (Nat.le_add_right _ _) ?_
    intro p l e R s m args below meth c Q hc1 hs1 hN hF hc hs H locs lsA φ hHR hB hL hLR hst hret
    refine mm_Wnewa hG hF hHR hB hd hT (Int32.not_lt.mpr h0) h1 (Nat.le_trans hc1 hc) (Nat.le_trans hs1 hs) (fun H1 hHR1 hz => ?_)
    have hE := mm_new_ext (φ := φ) (q := H.size) (kd := 100) (len := k.toNatClampNeg) hT
    have KK := hN hF hc hs H1 locs lsA _ hHR1 (by rw [hz]; omega) hL (hLR.ext hE) (mm_cc (mm_new_lv hT) (fun v hv => mm_lv_ext hE (mm_t1 hst v hv))) (hret.ext hE)
    rw [List.map_cons, mm_map_ext hE (mm_t1 hst), mm_new_cv] at KK
    exact KK
  | anewarray i =>
    obtain ⟨k, t, rfl, hk⟩ := mm_i1_some h
    obtain ⟨⟨hT, h0, h1⟩, hk⟩ := mm_if_some hk
    have hd := mm_dcs (mm_and hok).1
    have ha : a = 102 ∨ a = 103 := by simpa using (mm_and (mm_and hok).2).1
    have hw := of_decide_eq_true (mm_and (mm_and hok).2).2
    refine mm_one ih hk (Nat.le_succ _) (Nat.le_add_right _ _) ?_
    intro p l e R s m args below meth c Q hc1 hs1 hN hF hc hs H locs lsA φ hHR hB hL hLR hst hret
    refine mm_Wnewq hG hF hHR hB hd ha hw hT (Int32.not_lt.mpr h0) h1 (Nat.le_trans hc1 hc) (Nat.le_trans hs1 hs) (fun H1 hHR1 hz => ?_)
    have hE := mm_new_ext (φ := φ) (q := H.size) (kd := a) (len := k.toNatClampNeg) hT
    have KK := hN hF hc hs H1 locs lsA _ hHR1 (by rw [hz]; omega) hL (hLR.ext hE) (mm_cc (mm_new_lv hT) (fun v hv => mm_lv_ext hE (mm_t1 hst v hv))) (hret.ext hE)
    rw [List.map_cons, mm_map_ext hE (mm_t1 hst), mm_new_cv] at KK
    exact KK
  | invokestatic i =>
    have hd := mm_dcs (mm_and hok).1
    have hl := (mm_and hok).2
    by_cases ha : a = 999
    · rw [if_pos ha] at h hl
      obtain ⟨hd0, h⟩ := mm_if_none h
      obtain ⟨x, y, t, rfl, hk⟩ := mm_i2_some h
      obtain ⟨hlen, hk⟩ := mm_if_some hk
      have hw := of_decide_eq_true hl
      refine mm_one ih hk (Nat.le_refl _) (Nat.le_refl _) ?_
      intro p l e R s m args below meth c Q hc1 hs1 hN hF hc hs H locs lsA φ hHR hB hL hLR hst hret
      have KK := hN hF hc hs H locs lsA φ hHR hB hL hLR (mm_cc trivial (mm_t1 (mm_t1 hst))) hret
      obtain ⟨hx, hbb, hml, hown, hts, hin, hCK, ⟨hfr, hNK⟩, hlo⟩ := hF
      have hcs := mm_catsum (t.map (mm_cv φ))
      rw [List.length_map] at hcs
      exact va_mmax hx hbb (hml.trans hLR.1.symm) hown (hts _ (List.mem_of_getElem? hw)) (hts _ hG.2.2.2.2.2.2.1) (hts _ hG.2.2.2.2.2.2.2.1) (hts _ hG.2.2.2.2.2.2.2.2) (by omega) (by omega) (Nat.le_trans hc1 hc) (Nat.le_trans hs1 hs) hd KK
    · rw [if_neg ha] at h hl
      exact mm_call0 hG ih hd hl h
  | invokevirtual i =>
    obtain ⟨hrv, hk⟩ := mm_if_some h
    exact mm_call1 hG ih (mm_dcs (mm_and hok).1) (mm_and hok).2 hrv hk
  | invokespecial i =>
    have hd := mm_dcs (mm_and hok).1
    have hl := (mm_and hok).2
    by_cases ha : a = 998
    · rw [if_pos ha] at h hl
      obtain ⟨hd0, h⟩ := mm_if_none h
      obtain ⟨x, t, rfl, hk⟩ := mm_r1_some h
      obtain ⟨hlen, hk⟩ := mm_if_some hk
      have hw := of_decide_eq_true hl
      refine mm_one ih hk (Nat.le_refl _) (Nat.le_refl _) ?_
      intro p l e R s m args below meth c Q hc1 hs1 hN hF hc hs H locs lsA φ hHR hB hL hLR hst hret
      have KK := hN hF hc hs H locs lsA φ hHR hB hL hLR (mm_t1 hst) hret
      obtain ⟨hx, hbb, hml, hown, hts, hin, hCK, ⟨hfr, hNK⟩, hlo⟩ := hF
      have hcs := mm_catsum (t.map (mm_cv φ))
      rw [List.length_map] at hcs
      exact W.objInit hx hbb hown (hts _ (List.mem_of_getElem? hw)) (hts _ hG.2.2.2.2.2.1.1) (hts _ hG.2.2.2.2.2.1.2) rfl (hLR.1.trans hml.symm) rfl hd (by omega) (by show 2 * 0 + _ + 12 ≤ _; omega) KK
    · rw [if_neg ha] at h hl
      obtain ⟨hrf, hk⟩ := mm_if_some h
      by_cases h3 : (mm_km S a).1 = 3
      · rw [if_pos h3] at hl
        exact mm_call3 hG ih hd hl hrf hk
      · rw [if_neg h3] at hl
        exact mm_call2 hG ih hd hl hrf hk
  | ireturn =>
    obtain ⟨x, t, rfl, hk⟩ := mm_i1_some h
    obtain ⟨⟨ht, hb⟩, hk2⟩ := mm_if_some hk
    subst ht
    cases hk2
    have hd := mm_dcs hok
    refine ⟨⟨⟨Nat.le_refl _, Nat.le_refl _⟩, Or.inr ⟨x, rfl⟩⟩, ?_⟩
    intro p l e R s m args below meth c Q hF hc hs H locs lsA φ hHR hB hL hLR hst hret
    exact (hret φ H locs pc lsA hHR hB hL mm_ext.rf).1 x rfl hb hd
  | return_ =>
    obtain ⟨⟨rfl, hb⟩, hk⟩ := mm_if_some h
    cases hk
    have hd := mm_dcs hok
    refine ⟨⟨⟨Nat.le_refl _, Nat.le_refl _⟩, Or.inl rfl⟩, ?_⟩
    intro p l e R s m args below meth c Q hF hc hs H locs lsA φ hHR hB hL hLR hst hret
    exact (hret φ H locs pc lsA hHR hB hL mm_ext.rf).2 rfl hb hd
  | _ => cases h
theorem mm_all {S : mm_S} {Y : mm_Y} (hG : mm_Good S) : ∀ n, mm_IH S Y n
  | 0 => fun _ _ _ _ _ _ _ h => by cases h
  | n + 1 => mm_step hG (mm_all hG n)
end
section
/-! more steps answer no less -/
set_option maxHeartbeats 4000000 in
set_option maxRecDepth 20000 in
theorem mm_stp_mono {G : mm_G} {f f' : mm_F} (hf : ∀ d μ pc ls st g r, f d μ pc ls st g = some r → f' d μ pc ls st g = some r) {d μ pc : Nat} {ls st : List Value} {g : mm_M} {r : mm_R} (h : mm_stp G f d μ pc ls st g = some r) : mm_stp G f' d μ pc ls st g = some r := by
  have hcl : ∀ {a b : Nat}, mm_cl G f d μ pc a b ls st g = some r → mm_cl G f' d μ pc a b ls st g = some r := by
    intro a b h
    cases d with
    | zero => cases h
    | succ d =>
    unfold mm_cl at h ⊢
    obtain ⟨hc, h⟩ := mm_if_some h
    refine (if_pos hc).trans ?_
    split at h
    · rename_i q hq
      rw [hf _ _ _ _ _ _ _ hq]
      exact hf _ _ _ _ _ _ _ h
    · cases h
  unfold mm_stp at h ⊢
  split at h
  · cases h
  rename_i ins a b w htb
  cases ins with
  | iconst k =>
    exact hf _ _ _ _ _ _ _ h
  | bipush k =>
    exact hf _ _ _ _ _ _ _ h
  | sipush k =>
    exact hf _ _ _ _ _ _ _ h
  | lconst k =>
    exact hf _ _ _ _ _ _ _ h
  | goto o =>
    exact hf _ _ _ _ _ _ _ h
  | iload i =>
    obtain ⟨x, hx, h⟩ := mm_oi_some h
    show mm_oi (mm_ld ls i) _ = _
    rw [hx]
    exact hf _ _ _ _ _ _ _ h
  | iload_n i =>
    obtain ⟨x, hx, h⟩ := mm_oi_some h
    show mm_oi (mm_ld ls i) _ = _
    rw [hx]
    exact hf _ _ _ _ _ _ _ h
  | aload i =>
    obtain ⟨x, hx, h⟩ := mm_or_some h
    show mm_or (mm_ld ls i) _ = _
    rw [hx]
    exact hf _ _ _ _ _ _ _ h
  | aload_n i =>
    obtain ⟨x, hx, h⟩ := mm_or_some h
    show mm_or (mm_ld ls i) _ = _
    rw [hx]
    exact hf _ _ _ _ _ _ _ h
  | lload i =>
    obtain ⟨x, hx, h⟩ := mm_ol_some h
    show mm_ol (mm_ld ls i) _ = _
    rw [hx]
    exact hf _ _ _ _ _ _ _ h
  | lload_n i =>
    obtain ⟨x, hx, h⟩ := mm_ol_some h
    show mm_ol (mm_ld ls i) _ = _
    rw [hx]
    exact hf _ _ _ _ _ _ _ h
  | istore i =>
    obtain ⟨x, t, rfl, hk⟩ := mm_i1_some h
    obtain ⟨hc, hk⟩ := mm_if_some hk
    exact (if_pos hc).trans (hf _ _ _ _ _ _ _ hk)
  | istore_n i =>
    obtain ⟨x, t, rfl, hk⟩ := mm_i1_some h
    obtain ⟨hc, hk⟩ := mm_if_some hk
    exact (if_pos hc).trans (hf _ _ _ _ _ _ _ hk)
  | astore i =>
    obtain ⟨x, t, rfl, hk⟩ := mm_r1_some h
    obtain ⟨hc, hk⟩ := mm_if_some hk
    exact (if_pos hc).trans (hf _ _ _ _ _ _ _ hk)
  | astore_n i =>
    obtain ⟨x, t, rfl, hk⟩ := mm_r1_some h
    obtain ⟨hc, hk⟩ := mm_if_some hk
    exact (if_pos hc).trans (hf _ _ _ _ _ _ _ hk)
  | lstore i =>
    obtain ⟨x, t, rfl, hk⟩ := mm_l1_some h
    obtain ⟨hc, hk⟩ := mm_if_some hk
    exact (if_pos hc).trans (hf _ _ _ _ _ _ _ hk)
  | lstore_n i =>
    obtain ⟨x, t, rfl, hk⟩ := mm_l1_some h
    obtain ⟨hc, hk⟩ := mm_if_some hk
    exact (if_pos hc).trans (hf _ _ _ _ _ _ _ hk)
  | iinc i k =>
    obtain ⟨x, hx, h⟩ := mm_oi_some h
    obtain ⟨hc, h⟩ := mm_if_some h
    show mm_oi (mm_ld ls i) _ = _
    rw [hx]
    exact (if_pos hc).trans (hf _ _ _ _ _ _ _ h)
  | iadd =>
    obtain ⟨x, y, t, rfl, hk⟩ := mm_i2_some h
    exact hf _ _ _ _ _ _ _ hk
  | isub =>
    obtain ⟨x, y, t, rfl, hk⟩ := mm_i2_some h
    exact hf _ _ _ _ _ _ _ hk
  | imul =>
    obtain ⟨x, y, t, rfl, hk⟩ := mm_i2_some h
    exact hf _ _ _ _ _ _ _ hk
  | iand =>
    obtain ⟨x, y, t, rfl, hk⟩ := mm_i2_some h
    exact hf _ _ _ _ _ _ _ hk
  | ladd =>
    obtain ⟨x, y, t, rfl, hk⟩ := mm_l2_some h
    exact hf _ _ _ _ _ _ _ hk
  | lsub =>
    obtain ⟨x, y, t, rfl, hk⟩ := mm_l2_some h
    exact hf _ _ _ _ _ _ _ hk
  | lmul =>
    obtain ⟨x, y, t, rfl, hk⟩ := mm_l2_some h
    exact hf _ _ _ _ _ _ _ hk
  | lcmp =>
    obtain ⟨x, y, t, rfl, hk⟩ := mm_l2_some h
    exact hf _ _ _ _ _ _ _ hk
  | ldiv =>
    obtain ⟨x, y, t, rfl, hk⟩ := mm_l2_some h
    obtain ⟨hc, hk⟩ := mm_if_none hk
    exact (if_neg hc).trans (hf _ _ _ _ _ _ _ hk)
  | i2l =>
    obtain ⟨x, t, rfl, hk⟩ := mm_i1_some h
    exact hf _ _ _ _ _ _ _ hk
  | dup =>
    obtain ⟨v, t, rfl, hk⟩ := mm_v1_some h
    obtain ⟨hc, hk⟩ := mm_if_some hk
    exact (if_pos hc).trans (hf _ _ _ _ _ _ _ hk)
  | dup2 =>
    obtain ⟨v, w, t, rfl, hk⟩ := mm_v2_some h
    obtain ⟨hc, hk⟩ := mm_if_some hk
    exact (if_pos hc).trans (hf _ _ _ _ _ _ _ hk)
  | ifCond q o =>
    cases q with
    | eq =>
      obtain ⟨x, t, rfl, hk⟩ := mm_i1_some h
      by_cases hq : x = 0
      · rw [if_pos hq] at hk
        exact (if_pos hq).trans (hf _ _ _ _ _ _ _ hk)
      · rw [if_neg hq] at hk
        exact (if_neg hq).trans (hf _ _ _ _ _ _ _ hk)
    | ne =>
      obtain ⟨x, t, rfl, hk⟩ := mm_i1_some h
      by_cases hq : ¬ x = 0
      · rw [if_pos hq] at hk
        exact (if_pos hq).trans (hf _ _ _ _ _ _ _ hk)
      · rw [if_neg hq] at hk
        exact (if_neg hq).trans (hf _ _ _ _ _ _ _ hk)
    | lt =>
      obtain ⟨x, t, rfl, hk⟩ := mm_i1_some h
      by_cases hq : x < 0
      · rw [if_pos hq] at hk
        exact (if_pos hq).trans (hf _ _ _ _ _ _ _ hk)
      · rw [if_neg hq] at hk
        exact (if_neg hq).trans (hf _ _ _ _ _ _ _ hk)
    | ge =>
      obtain ⟨x, t, rfl, hk⟩ := mm_i1_some h
      by_cases hq : 0 ≤ x
      · rw [if_pos hq] at hk
        exact (if_pos hq).trans (hf _ _ _ _ _ _ _ hk)
      · rw [if_neg hq] at hk
        exact (if_neg hq).trans (hf _ _ _ _ _ _ _ hk)
    | gt =>
      obtain ⟨x, t, rfl, hk⟩ := mm_i1_some h
      by_cases hq : 0 < x
      · rw [if_pos hq] at hk
        exact (if_pos hq).trans (hf _ _ _ _ _ _ _ hk)
      · rw [if_neg hq] at hk
        exact (if_neg hq).trans (hf _ _ _ _ _ _ _ hk)
    | le =>
      obtain ⟨x, t, rfl, hk⟩ := mm_i1_some h
      by_cases hq : x ≤ 0
      · rw [if_pos hq] at hk
        exact (if_pos hq).trans (hf _ _ _ _ _ _ _ hk)
      · rw [if_neg hq] at hk
        exact (if_neg hq).trans (hf _ _ _ _ _ _ _ hk)
  | if_icmp q o =>
    cases q with
    | eq =>
      obtain ⟨x, y, t, rfl, hk⟩ := mm_i2_some h
      by_cases hq : x = y
      · rw [if_pos hq] at hk
        exact (if_pos hq).trans (hf _ _ _ _ _ _ _ hk)
      · rw [if_neg hq] at hk
        exact (if_neg hq).trans (hf _ _ _ _ _ _ _ hk)
    | ne =>
      obtain ⟨x, y, t, rfl, hk⟩ := mm_i2_some h
      by_cases hq : ¬ x = y
      · rw [if_pos hq] at hk
        exact (if_pos hq).trans (hf _ _ _ _ _ _ _ hk)
      · rw [if_neg hq] at hk
        exact (if_neg hq).trans (hf _ _ _ _ _ _ _ hk)
    | lt =>
      obtain ⟨x, y, t, rfl, hk⟩ := mm_i2_some h
      by_cases hq : x < y
      · rw [if_pos hq] at hk
        exact (if_pos hq).trans (hf _ _ _ _ _ _ _ hk)
      · rw [if_neg hq] at hk
        exact (if_neg hq).trans (hf _ _ _ _ _ _ _ hk)
    | ge =>
      obtain ⟨x, y, t, rfl, hk⟩ := mm_i2_some h
      by_cases hq : y ≤ x
      · rw [if_pos hq] at hk
        exact (if_pos hq).trans (hf _ _ _ _ _ _ _ hk)
      · rw [if_neg hq] at hk
        exact (if_neg hq).trans (hf _ _ _ _ _ _ _ hk)
    | gt =>
      obtain ⟨x, y, t, rfl, hk⟩ := mm_i2_some h
      by_cases hq : y < x
      · rw [if_pos hq] at hk
        exact (if_pos hq).trans (hf _ _ _ _ _ _ _ hk)
      · rw [if_neg hq] at hk
        exact (if_neg hq).trans (hf _ _ _ _ _ _ _ hk)
    | le =>
      obtain ⟨x, y, t, rfl, hk⟩ := mm_i2_some h
      by_cases hq : x ≤ y
      · rw [if_pos hq] at hk
        exact (if_pos hq).trans (hf _ _ _ _ _ _ _ hk)
      · rw [if_neg hq] at hk
        exact (if_neg hq).trans (hf _ _ _ _ _ _ _ hk)
  | tableswitch df lo hi offs =>
    obtain ⟨x, t, rfl, hk⟩ := mm_i1_some h
    refine (show mm_go (if x.toInt < lo ∨ hi < x.toInt then some df else offs[(x.toInt - lo).toNat]?) pc (fun tt => f' d μ tt ls t g) = some r from ?_)
    unfold mm_go at hk ⊢
    split at hk
    · rename_i off hoff
      obtain ⟨hc, hk⟩ := mm_if_some hk
      exact (if_pos hc).trans (hf _ _ _ _ _ _ _ hk)
    · cases hk
  | getfield i =>
    obtain ⟨x, t, rfl, hk⟩ := mm_r1_some h
    obtain ⟨hc, hk⟩ := mm_if_some hk
    exact (if_pos hc).trans (hf _ _ _ _ _ _ _ hk)
  | putfield i =>
    obtain ⟨v, x, t, rfl, hk⟩ := mm_vr_some h
    obtain ⟨hc, hk⟩ := mm_if_some hk
    exact (if_pos hc).trans (hf _ _ _ _ _ _ _ hk)
  | iaload =>
    obtain ⟨j, x, t, rfl, hk⟩ := mm_ir_some h
    obtain ⟨hc, hk⟩ := mm_if_some hk
    exact (if_pos hc).trans (hf _ _ _ _ _ _ _ hk)
  | aaload =>
    obtain ⟨j, x, t, rfl, hk⟩ := mm_ir_some h
    obtain ⟨hc, hk⟩ := mm_if_some hk
    exact (if_pos hc).trans (hf _ _ _ _ _ _ _ hk)
  | iastore =>
    obtain ⟨v, j, x, t, rfl, hk⟩ := mm_iir_some h
    obtain ⟨hc, hk⟩ := mm_if_some hk
    exact (if_pos hc).trans (hf _ _ _ _ _ _ _ hk)
  | aastore =>
    obtain ⟨v, j, x, t, rfl, hk⟩ := mm_rir_some h
    obtain ⟨hc, hk⟩ := mm_if_some hk
    exact (if_pos hc).trans (hf _ _ _ _ _ _ _ hk)
  | arraylength =>
    obtain ⟨x, t, rfl, hk⟩ := mm_r1_some h
    obtain ⟨kd, len, hT, h1, h2, hk⟩ := mm_ln_some hk
    show mm_ln (g.1 x) _ = some r
    rw [hT]
    exact (if_pos ⟨h1, h2⟩).trans (hf _ _ _ _ _ _ _ hk)
  | new i =>
    obtain ⟨hc, h⟩ := mm_if_some h
    exact (if_pos hc).trans (hf _ _ _ _ _ _ _ h)
  | newarray ty =>
    obtain ⟨k, t, rfl, hk⟩ := mm_i1_some h
    obtain ⟨hc, hk⟩ := mm_if_some hk
    exact (if_pos hc).trans (hf _ _ _ _ _ _ _ hk)
  | anewarray i =>
    obtain ⟨k, t, rfl, hk⟩ := mm_i1_some h
    obtain ⟨hc, hk⟩ := mm_if_some hk
    exact (if_pos hc).trans (hf _ _ _ _ _ _ _ hk)
  | invokestatic i =>
    by_cases ha : a = 999
    · rw [if_pos ha] at h
      obtain ⟨hd0, h⟩ := mm_if_none h
      obtain ⟨x, y, t, rfl, hk⟩ := mm_i2_some h
      obtain ⟨hc, hk⟩ := mm_if_some hk
      exact (if_pos ha).trans ((if_neg hd0).trans ((if_pos hc).trans (hf _ _ _ _ _ _ _ hk)))
    · rw [if_neg ha] at h
      exact (if_neg ha).trans (hcl h)
  | invokevirtual i =>
    obtain ⟨hc, h⟩ := mm_if_some h
    exact (if_pos hc).trans (hcl h)
  | invokespecial i =>
    by_cases ha : a = 998
    · rw [if_pos ha] at h
      obtain ⟨hd0, h⟩ := mm_if_none h
      obtain ⟨x, t, rfl, hk⟩ := mm_r1_some h
      obtain ⟨hc, hk⟩ := mm_if_some hk
      exact (if_pos ha).trans ((if_neg hd0).trans ((if_pos hc).trans (hf _ _ _ _ _ _ _ hk)))
    · rw [if_neg ha] at h
      obtain ⟨hc, h⟩ := mm_if_some h
      exact (if_neg ha).trans ((if_pos hc).trans (hcl h))
  | ireturn => exact h
  | return_ => exact h
  | _ => cases h
theorem mm_mono1 {G : mm_G} : ∀ (n : Nat) (d μ pc : Nat) (ls st : List Value) (g : mm_M) (r : mm_R), mm_run G n d μ pc ls st g = some r → mm_run G (n + 1) d μ pc ls st g = some r
  | 0, _, _, _, _, _, _, _, h => by cases h
  | n + 1, d, μ, pc, ls, st, g, r, h => mm_stp_mono (f := mm_run G n) (f' := mm_run G (n + 1)) (mm_mono1 n) h
theorem mm_mono {G : mm_G} {n k d μ pc : Nat} {ls st : List Value} {g : mm_M} {r : mm_R} (h : mm_run G n d μ pc ls st g = some r) (hk : n ≤ k) : mm_run G k d μ pc ls st g = some r := by
  induction hk with
  | refl => exact h
  | step _ ih => exact mm_mono1 _ _ _ _ _ _ _ _ ih
/-- from here it answers r -/
def mm_Rn (G : mm_G) (d μ pc : Nat) (ls st : List Value) (g : mm_M) (r : mm_R) : Prop := ∃ n, mm_run G n d μ pc ls st g = some r
theorem mm_det {G : mm_G} {d μ pc : Nat} {ls st : List Value} {g : mm_M} {r r' : mm_R} (h : mm_Rn G d μ pc ls st g r) (h' : mm_Rn G d μ pc ls st g r') : r = r' := by
  obtain ⟨n, h⟩ := h
  obtain ⟨k, h'⟩ := h'
  have a := mm_mono h (Nat.le_max_left n k)
  have b := mm_mono h' (Nat.le_max_right n k)
  exact Option.some.inj (a.symm.trans b)
theorem mm_Rn_step {G : mm_G} {d μ pc pc' : Nat} {ls st ls' st' : List Value} {g g' : mm_M} (hs : ∀ f : mm_F, mm_stp G f d μ pc ls st g = f d μ pc' ls' st' g') (r : mm_R) : mm_Rn G d μ pc ls st g r ↔ mm_Rn G d μ pc' ls' st' g' r := by
  constructor
  · rintro ⟨n, h⟩
    cases n with
    | zero => cases h
    | succ n => exact ⟨n, (hs (mm_run G n)).symm.trans h⟩
  · rintro ⟨n, h⟩
    exact ⟨n + 1, (hs (mm_run G n)).trans h⟩
theorem mm_Rn_ret {G : mm_G} {d μ pc : Nat} {ls st : List Value} {g : mm_M} {r : mm_R} (hs : ∀ f : mm_F, mm_stp G f d μ pc ls st g = some r) : mm_Rn G d μ pc ls st g r := ⟨1, hs _⟩
/-- the callee's answer, and what follows -/
theorem mm_Rn_call {G : mm_G} {d μ pc μ' n : Nat} {ls st : List Value} {g : mm_M} {q r : mm_R} (hs : ∀ f : mm_F, mm_stp G f (d + 1) μ pc ls st g = mm_cl G f (d + 1) μ pc μ' n ls st g) (hc : n ≤ st.length ∧ (st.drop n).length ≤ 4 ∧ (st.take n).all mm_ar = true)
    (hq : mm_Rn G d μ' 0 ((st.take n).reverse ++ List.replicate (mm_mx G μ' - n) (.retAddr 0)) [] (g.1, g.2.1, 0, 0) q) :
    mm_Rn G (d + 1) μ pc ls st g r ↔ mm_Rn G (d + 1) μ (pc + 3) ls (q.1.toList ++ st.drop n) (q.2.1, q.2.2.1, g.2.2.1 + q.2.2.2.1, g.2.2.2 + q.2.2.2.2) r := by
  constructor
  · rintro ⟨k, h⟩
    cases k with
    | zero => cases h
    | succ k =>
    have h : mm_stp G (mm_run G k) (d + 1) μ pc ls st g = some r := h
    rw [hs] at h
    unfold mm_cl at h
    obtain ⟨-, h⟩ := mm_if_some h
    split at h
    · rename_i q' hq'
      have : q = q' := mm_det hq ⟨k, hq'⟩
      subst this
      exact ⟨k, h⟩
    · cases h
  · rintro ⟨k, h⟩
    obtain ⟨k', hq⟩ := hq
    refine ⟨max k k' + 1, ?_⟩
    show mm_stp G (mm_run G (max k k')) (d + 1) μ pc ls st g = some r
    rw [hs]
    unfold mm_cl
    refine (if_pos hc).trans ?_
    rw [mm_mono hq (Nat.le_max_right k k')]
    exact mm_mono h (Nat.le_max_left k k')
theorem rn_iconst {G : mm_G} {d μ pc a b w : Nat} {ls t : List Value} {g : mm_M} {k : Int} (h : mm_tb G μ pc = some (.iconst k, a, b, w)) (r : mm_R) : mm_Rn G d μ pc ls (t) g r ↔ mm_Rn G d μ (pc + 1) (ls) (.int (Int32.ofInt k) :: t) (g) r :=
  mm_Rn_step (fun f => by unfold mm_stp; rw [h] <;> rfl) r
theorem rn_bipush {G : mm_G} {d μ pc a b w : Nat} {ls t : List Value} {g : mm_M} {k : Int} (h : mm_tb G μ pc = some (.bipush k, a, b, w)) (r : mm_R) : mm_Rn G d μ pc ls (t) g r ↔ mm_Rn G d μ (pc + 2) (ls) (.int (Int32.ofInt k) :: t) (g) r :=
  mm_Rn_step (fun f => by unfold mm_stp; rw [h] <;> rfl) r
theorem rn_sipush {G : mm_G} {d μ pc a b w : Nat} {ls t : List Value} {g : mm_M} {k : Int} (h : mm_tb G μ pc = some (.sipush k, a, b, w)) (r : mm_R) : mm_Rn G d μ pc ls (t) g r ↔ mm_Rn G d μ (pc + 3) (ls) (.int (Int32.ofInt k) :: t) (g) r :=
  mm_Rn_step (fun f => by unfold mm_stp; rw [h] <;> rfl) r
theorem rn_lconst {G : mm_G} {d μ pc a b w : Nat} {ls t : List Value} {g : mm_M} {k : Fin 2} (h : mm_tb G μ pc = some (.lconst k, a, b, w)) (r : mm_R) : mm_Rn G d μ pc ls (t) g r ↔ mm_Rn G d μ (pc + 1) (ls) (.long (Int64.ofNat k) :: t) (g) r :=
  mm_Rn_step (fun f => by unfold mm_stp; rw [h] <;> rfl) r
theorem rn_iload {G : mm_G} {d μ pc a b w : Nat} {ls t : List Value} {g : mm_M} {i : Nat} {x : Int32} (h : mm_tb G μ pc = some (.iload i, a, b, w)) (hx : mm_ld ls i = .int x) (r : mm_R) : mm_Rn G d μ pc ls (t) g r ↔ mm_Rn G d μ (pc + 2) (ls) (.int x :: t) (g) r :=
  mm_Rn_step (fun f => by unfold mm_stp; rw [h]; show mm_oi (mm_ld ls i) _ = _; rw [hx]; rfl) r
theorem rn_iload_n {G : mm_G} {d μ pc a b w : Nat} {ls t : List Value} {g : mm_M} {i : Fin 4} {x : Int32} (h : mm_tb G μ pc = some (.iload_n i, a, b, w)) (hx : mm_ld ls i = .int x) (r : mm_R) : mm_Rn G d μ pc ls (t) g r ↔ mm_Rn G d μ (pc + 1) (ls) (.int x :: t) (g) r :=
  mm_Rn_step (fun f => by unfold mm_stp; rw [h]; show mm_oi (mm_ld ls i) _ = _; rw [hx]; rfl) r
theorem rn_istore {G : mm_G} {d μ pc a b w : Nat} {ls t : List Value} {g : mm_M} {i : Nat} {x : Int32} (h : mm_tb G μ pc = some (.istore i, a, b, w)) (hc : mm_so ls i 1 = true) (r : mm_R) : mm_Rn G d μ pc ls (.int x :: t) g r ↔ mm_Rn G d μ (pc + 2) (ls.set i (.int x)) (t) (g) r :=
  mm_Rn_step (fun f => by unfold mm_stp; rw [h]; exact if_pos hc) r
theorem rn_istore_n {G : mm_G} {d μ pc a b w : Nat} {ls t : List Value} {g : mm_M} {i : Fin 4} {x : Int32} (h : mm_tb G μ pc = some (.istore_n i, a, b, w)) (hc : mm_so ls i 1 = true) (r : mm_R) : mm_Rn G d μ pc ls (.int x :: t) g r ↔ mm_Rn G d μ (pc + 1) (ls.set i (.int x)) (t) (g) r :=
  mm_Rn_step (fun f => by unfold mm_stp; rw [h]; exact if_pos hc) r
theorem rn_aload {G : mm_G} {d μ pc a b w : Nat} {ls t : List Value} {g : mm_M} {i : Nat} {x : Nat} (h : mm_tb G μ pc = some (.aload i, a, b, w)) (hx : mm_ld ls i = .ref x) (r : mm_R) : mm_Rn G d μ pc ls (t) g r ↔ mm_Rn G d μ (pc + 2) (ls) (.ref x :: t) (g) r :=
  mm_Rn_step (fun f => by unfold mm_stp; rw [h]; show mm_or (mm_ld ls i) _ = _; rw [hx]; rfl) r
theorem rn_aload_n {G : mm_G} {d μ pc a b w : Nat} {ls t : List Value} {g : mm_M} {i : Fin 4} {x : Nat} (h : mm_tb G μ pc = some (.aload_n i, a, b, w)) (hx : mm_ld ls i = .ref x) (r : mm_R) : mm_Rn G d μ pc ls (t) g r ↔ mm_Rn G d μ (pc + 1) (ls) (.ref x :: t) (g) r :=
  mm_Rn_step (fun f => by unfold mm_stp; rw [h]; show mm_or (mm_ld ls i) _ = _; rw [hx]; rfl) r
theorem rn_astore {G : mm_G} {d μ pc a b w : Nat} {ls t : List Value} {g : mm_M} {i : Nat} {x : Nat} (h : mm_tb G μ pc = some (.astore i, a, b, w)) (hc : mm_so ls i 1 = true) (r : mm_R) : mm_Rn G d μ pc ls (.ref x :: t) g r ↔ mm_Rn G d μ (pc + 2) (ls.set i (.ref x)) (t) (g) r :=
  mm_Rn_step (fun f => by unfold mm_stp; rw [h]; exact if_pos hc) r
theorem rn_astore_n {G : mm_G} {d μ pc a b w : Nat} {ls t : List Value} {g : mm_M} {i : Fin 4} {x : Nat} (h : mm_tb G μ pc = some (.astore_n i, a, b, w)) (hc : mm_so ls i 1 = true) (r : mm_R) : mm_Rn G d μ pc ls (.ref x :: t) g r ↔ mm_Rn G d μ (pc + 1) (ls.set i (.ref x)) (t) (g) r :=
  mm_Rn_step (fun f => by unfold mm_stp; rw [h]; exact if_pos hc) r
theorem rn_lload {G : mm_G} {d μ pc a b w : Nat} {ls t : List Value} {g : mm_M} {i : Nat} {x : Int64} (h : mm_tb G μ pc = some (.lload i, a, b, w)) (hx : mm_ld ls i = .long x) (r : mm_R) : mm_Rn G d μ pc ls (t) g r ↔ mm_Rn G d μ (pc + 2) (ls) (.long x :: t) (g) r :=
  mm_Rn_step (fun f => by unfold mm_stp; rw [h]; show mm_ol (mm_ld ls i) _ = _; rw [hx]; rfl) r
theorem rn_lload_n {G : mm_G} {d μ pc a b w : Nat} {ls t : List Value} {g : mm_M} {i : Fin 4} {x : Int64} (h : mm_tb G μ pc = some (.lload_n i, a, b, w)) (hx : mm_ld ls i = .long x) (r : mm_R) : mm_Rn G d μ pc ls (t) g r ↔ mm_Rn G d μ (pc + 1) (ls) (.long x :: t) (g) r :=
  mm_Rn_step (fun f => by unfold mm_stp; rw [h]; show mm_ol (mm_ld ls i) _ = _; rw [hx]; rfl) r
theorem rn_lstore {G : mm_G} {d μ pc a b w : Nat} {ls t : List Value} {g : mm_M} {i : Nat} {x : Int64} (h : mm_tb G μ pc = some (.lstore i, a, b, w)) (hc : mm_so ls i 2 = true) (r : mm_R) : mm_Rn G d μ pc ls (.long x :: t) g r ↔ mm_Rn G d μ (pc + 2) ((ls.set i (.long x)).set (i + 1) (.retAddr 0)) (t) (g) r :=
  mm_Rn_step (fun f => by unfold mm_stp; rw [h]; exact if_pos hc) r
theorem rn_lstore_n {G : mm_G} {d μ pc a b w : Nat} {ls t : List Value} {g : mm_M} {i : Fin 4} {x : Int64} (h : mm_tb G μ pc = some (.lstore_n i, a, b, w)) (hc : mm_so ls i 2 = true) (r : mm_R) : mm_Rn G d μ pc ls (.long x :: t) g r ↔ mm_Rn G d μ (pc + 1) ((ls.set i (.long x)).set (i + 1) (.retAddr 0)) (t) (g) r :=
  mm_Rn_step (fun f => by unfold mm_stp; rw [h]; exact if_pos hc) r
theorem rn_iinc {G : mm_G} {d μ pc a b w : Nat} {ls t : List Value} {g : mm_M} {i : Nat} {k : Int} {x : Int32} (h : mm_tb G μ pc = some (.iinc i k, a, b, w)) (hx : mm_ld ls i = .int x) (hc : mm_so ls i 1 = true) (r : mm_R) : mm_Rn G d μ pc ls (t) g r ↔ mm_Rn G d μ (pc + 3) (ls.set i (.int (x + Int32.ofInt k))) (t) (g) r :=
  mm_Rn_step (fun f => by unfold mm_stp; rw [h]; show mm_oi (mm_ld ls i) _ = _; rw [hx]; exact if_pos hc) r
theorem rn_iadd {G : mm_G} {d μ pc a b w : Nat} {ls t : List Value} {g : mm_M} {x y : Int32} (h : mm_tb G μ pc = some (.iadd, a, b, w)) (r : mm_R) : mm_Rn G d μ pc ls (.int y :: .int x :: t) g r ↔ mm_Rn G d μ (pc + 1) (ls) (.int (x + y) :: t) (g) r :=
  mm_Rn_step (fun f => by unfold mm_stp; rw [h] <;> rfl) r
theorem rn_isub {G : mm_G} {d μ pc a b w : Nat} {ls t : List Value} {g : mm_M} {x y : Int32} (h : mm_tb G μ pc = some (.isub, a, b, w)) (r : mm_R) : mm_Rn G d μ pc ls (.int y :: .int x :: t) g r ↔ mm_Rn G d μ (pc + 1) (ls) (.int (x - y) :: t) (g) r :=
  mm_Rn_step (fun f => by unfold mm_stp; rw [h] <;> rfl) r
theorem rn_imul {G : mm_G} {d μ pc a b w : Nat} {ls t : List Value} {g : mm_M} {x y : Int32} (h : mm_tb G μ pc = some (.imul, a, b, w)) (r : mm_R) : mm_Rn G d μ pc ls (.int y :: .int x :: t) g r ↔ mm_Rn G d μ (pc + 1) (ls) (.int (x * y) :: t) (g) r :=
  mm_Rn_step (fun f => by unfold mm_stp; rw [h] <;> rfl) r
theorem rn_iand {G : mm_G} {d μ pc a b w : Nat} {ls t : List Value} {g : mm_M} {x y : Int32} (h : mm_tb G μ pc = some (.iand, a, b, w)) (r : mm_R) : mm_Rn G d μ pc ls (.int y :: .int x :: t) g r ↔ mm_Rn G d μ (pc + 1) (ls) (.int (x &&& y) :: t) (g) r :=
  mm_Rn_step (fun f => by unfold mm_stp; rw [h] <;> rfl) r
theorem rn_ladd {G : mm_G} {d μ pc a b w : Nat} {ls t : List Value} {g : mm_M} {x y : Int64} (h : mm_tb G μ pc = some (.ladd, a, b, w)) (r : mm_R) : mm_Rn G d μ pc ls (.long y :: .long x :: t) g r ↔ mm_Rn G d μ (pc + 1) (ls) (.long (x + y) :: t) (g) r :=
  mm_Rn_step (fun f => by unfold mm_stp; rw [h] <;> rfl) r
theorem rn_lsub {G : mm_G} {d μ pc a b w : Nat} {ls t : List Value} {g : mm_M} {x y : Int64} (h : mm_tb G μ pc = some (.lsub, a, b, w)) (r : mm_R) : mm_Rn G d μ pc ls (.long y :: .long x :: t) g r ↔ mm_Rn G d μ (pc + 1) (ls) (.long (x - y) :: t) (g) r :=
  mm_Rn_step (fun f => by unfold mm_stp; rw [h] <;> rfl) r
theorem rn_lmul {G : mm_G} {d μ pc a b w : Nat} {ls t : List Value} {g : mm_M} {x y : Int64} (h : mm_tb G μ pc = some (.lmul, a, b, w)) (r : mm_R) : mm_Rn G d μ pc ls (.long y :: .long x :: t) g r ↔ mm_Rn G d μ (pc + 1) (ls) (.long (x * y) :: t) (g) r :=
  mm_Rn_step (fun f => by unfold mm_stp; rw [h] <;> rfl) r
theorem rn_ldiv {G : mm_G} {d μ pc a b w : Nat} {ls t : List Value} {g : mm_M} {x y : Int64} (h : mm_tb G μ pc = some (.ldiv, a, b, w)) (hc : ¬ y = 0) (r : mm_R) : mm_Rn G d μ pc ls (.long y :: .long x :: t) g r ↔ mm_Rn G d μ (pc + 1) (ls) (.long (x / y) :: t) (g) r :=
  mm_Rn_step (fun f => by unfold mm_stp; rw [h]; exact if_neg hc) r
theorem rn_lcmp {G : mm_G} {d μ pc a b w : Nat} {ls t : List Value} {g : mm_M} {x y : Int64} (h : mm_tb G μ pc = some (.lcmp, a, b, w)) (r : mm_R) : mm_Rn G d μ pc ls (.long y :: .long x :: t) g r ↔ mm_Rn G d μ (pc + 1) (ls) (.int (lg_cmp x y) :: t) (g) r :=
  mm_Rn_step (fun f => by unfold mm_stp; rw [h] <;> rfl) r
theorem rn_i2l {G : mm_G} {d μ pc a b w : Nat} {ls t : List Value} {g : mm_M} {x : Int32} (h : mm_tb G μ pc = some (.i2l, a, b, w)) (r : mm_R) : mm_Rn G d μ pc ls (.int x :: t) g r ↔ mm_Rn G d μ (pc + 1) (ls) (.long x.toInt64 :: t) (g) r :=
  mm_Rn_step (fun f => by unfold mm_stp; rw [h] <;> rfl) r
theorem rn_dup {G : mm_G} {d μ pc a b w : Nat} {ls t : List Value} {g : mm_M} {v : Value} (h : mm_tb G μ pc = some (.dup, a, b, w)) (hc : mm_c1 v = true) (r : mm_R) : mm_Rn G d μ pc ls (v :: t) g r ↔ mm_Rn G d μ (pc + 1) (ls) (v :: v :: t) (g) r :=
  mm_Rn_step (fun f => by unfold mm_stp; rw [h]; exact if_pos hc) r
theorem rn_dup2 {G : mm_G} {d μ pc a b w : Nat} {ls t : List Value} {g : mm_M} {v u : Value} (h : mm_tb G μ pc = some (.dup2, a, b, w)) (hc : mm_c1 v = true) (hc2 : mm_c1 u = true) (r : mm_R) : mm_Rn G d μ pc ls (v :: u :: t) g r ↔ mm_Rn G d μ (pc + 1) (ls) (v :: u :: v :: u :: t) (g) r :=
  mm_Rn_step (fun f => by unfold mm_stp; rw [h]; exact if_pos ⟨hc, hc2⟩) r
theorem rn_if_eq_t {G : mm_G} {d μ pc a b w : Nat} {ls t : List Value} {g : mm_M} {x : Int32} {o : Int} (h : mm_tb G μ pc = some (.ifCond .eq o, a, b, w)) (hc : x = 0) (r : mm_R) : mm_Rn G d μ pc ls (.int x :: t) g r ↔ mm_Rn G d μ (a) (ls) (t) (g) r :=
  mm_Rn_step (fun f => by unfold mm_stp; rw [h]; exact if_pos hc) r
theorem rn_if_eq_f {G : mm_G} {d μ pc a b w : Nat} {ls t : List Value} {g : mm_M} {x : Int32} {o : Int} (h : mm_tb G μ pc = some (.ifCond .eq o, a, b, w)) (hc : ¬ (x = 0)) (r : mm_R) : mm_Rn G d μ pc ls (.int x :: t) g r ↔ mm_Rn G d μ (pc + 3) (ls) (t) (g) r :=
  mm_Rn_step (fun f => by unfold mm_stp; rw [h]; exact if_neg hc) r
theorem rn_if_ne_t {G : mm_G} {d μ pc a b w : Nat} {ls t : List Value} {g : mm_M} {x : Int32} {o : Int} (h : mm_tb G μ pc = some (.ifCond .ne o, a, b, w)) (hc : ¬ x = 0) (r : mm_R) : mm_Rn G d μ pc ls (.int x :: t) g r ↔ mm_Rn G d μ (a) (ls) (t) (g) r :=
  mm_Rn_step (fun f => by unfold mm_stp; rw [h]; exact if_pos hc) r
theorem rn_if_ne_f {G : mm_G} {d μ pc a b w : Nat} {ls t : List Value} {g : mm_M} {x : Int32} {o : Int} (h : mm_tb G μ pc = some (.ifCond .ne o, a, b, w)) (hc : ¬ (¬ x = 0)) (r : mm_R) : mm_Rn G d μ pc ls (.int x :: t) g r ↔ mm_Rn G d μ (pc + 3) (ls) (t) (g) r :=
  mm_Rn_step (fun f => by unfold mm_stp; rw [h]; exact if_neg hc) r
theorem rn_if_lt_t {G : mm_G} {d μ pc a b w : Nat} {ls t : List Value} {g : mm_M} {x : Int32} {o : Int} (h : mm_tb G μ pc = some (.ifCond .lt o, a, b, w)) (hc : x < 0) (r : mm_R) : mm_Rn G d μ pc ls (.int x :: t) g r ↔ mm_Rn G d μ (a) (ls) (t) (g) r :=
  mm_Rn_step (fun f => by unfold mm_stp; rw [h]; exact if_pos hc) r
theorem rn_if_lt_f {G : mm_G} {d μ pc a b w : Nat} {ls t : List Value} {g : mm_M} {x : Int32} {o : Int} (h : mm_tb G μ pc = some (.ifCond .lt o, a, b, w)) (hc : ¬ (x < 0)) (r : mm_R) : mm_Rn G d μ pc ls (.int x :: t) g r ↔ mm_Rn G d μ (pc + 3) (ls) (t) (g) r :=
  mm_Rn_step (fun f => by unfold mm_stp; rw [h]; exact if_neg hc) r
theorem rn_if_ge_t {G : mm_G} {d μ pc a b w : Nat} {ls t : List Value} {g : mm_M} {x : Int32} {o : Int} (h : mm_tb G μ pc = some (.ifCond .ge o, a, b, w)) (hc : 0 ≤ x) (r : mm_R) : mm_Rn G d μ pc ls (.int x :: t) g r ↔ mm_Rn G d μ (a) (ls) (t) (g) r :=
  mm_Rn_step (fun f => by unfold mm_stp; rw [h]; exact if_pos hc) r
theorem rn_if_ge_f {G : mm_G} {d μ pc a b w : Nat} {ls t : List Value} {g : mm_M} {x : Int32} {o : Int} (h : mm_tb G μ pc = some (.ifCond .ge o, a, b, w)) (hc : ¬ (0 ≤ x)) (r : mm_R) : mm_Rn G d μ pc ls (.int x :: t) g r ↔ mm_Rn G d μ (pc + 3) (ls) (t) (g) r :=
  mm_Rn_step (fun f => by unfold mm_stp; rw [h]; exact if_neg hc) r
theorem rn_if_gt_t {G : mm_G} {d μ pc a b w : Nat} {ls t : List Value} {g : mm_M} {x : Int32} {o : Int} (h : mm_tb G μ pc = some (.ifCond .gt o, a, b, w)) (hc : 0 < x) (r : mm_R) : mm_Rn G d μ pc ls (.int x :: t) g r ↔ mm_Rn G d μ (a) (ls) (t) (g) r :=
  mm_Rn_step (fun f => by unfold mm_stp; rw [h]; exact if_pos hc) r
theorem rn_if_gt_f {G : mm_G} {d μ pc a b w : Nat} {ls t : List Value} {g : mm_M} {x : Int32} {o : Int} (h : mm_tb G μ pc = some (.ifCond .gt o, a, b, w)) (hc : ¬ (0 < x)) (r : mm_R) : mm_Rn G d μ pc ls (.int x :: t) g r ↔ mm_Rn G d μ (pc + 3) (ls) (t) (g) r :=
  mm_Rn_step (fun f => by unfold mm_stp; rw [h]; exact if_neg hc) r
theorem rn_if_le_t {G : mm_G} {d μ pc a b w : Nat} {ls t : List Value} {g : mm_M} {x : Int32} {o : Int} (h : mm_tb G μ pc = some (.ifCond .le o, a, b, w)) (hc : x ≤ 0) (r : mm_R) : mm_Rn G d μ pc ls (.int x :: t) g r ↔ mm_Rn G d μ (a) (ls) (t) (g) r :=
  mm_Rn_step (fun f => by unfold mm_stp; rw [h]; exact if_pos hc) r
theorem rn_if_le_f {G : mm_G} {d μ pc a b w : Nat} {ls t : List Value} {g : mm_M} {x : Int32} {o : Int} (h : mm_tb G μ pc = some (.ifCond .le o, a, b, w)) (hc : ¬ (x ≤ 0)) (r : mm_R) : mm_Rn G d μ pc ls (.int x :: t) g r ↔ mm_Rn G d μ (pc + 3) (ls) (t) (g) r :=
  mm_Rn_step (fun f => by unfold mm_stp; rw [h]; exact if_neg hc) r
theorem rn_icmp_eq_t {G : mm_G} {d μ pc a b w : Nat} {ls t : List Value} {g : mm_M} {x y : Int32} {o : Int} (h : mm_tb G μ pc = some (.if_icmp .eq o, a, b, w)) (hc : x = y) (r : mm_R) : mm_Rn G d μ pc ls (.int y :: .int x :: t) g r ↔ mm_Rn G d μ (a) (ls) (t) (g) r :=
  mm_Rn_step (fun f => by unfold mm_stp; rw [h]; exact if_pos hc) r
theorem rn_icmp_eq_f {G : mm_G} {d μ pc a b w : Nat} {ls t : List Value} {g : mm_M} {x y : Int32} {o : Int} (h : mm_tb G μ pc = some (.if_icmp .eq o, a, b, w)) (hc : ¬ (x = y)) (r : mm_R) : mm_Rn G d μ pc ls (.int y :: .int x :: t) g r ↔ mm_Rn G d μ (pc + 3) (ls) (t) (g) r :=
  mm_Rn_step (fun f => by unfold mm_stp; rw [h]; exact if_neg hc) r
theorem rn_icmp_ne_t {G : mm_G} {d μ pc a b w : Nat} {ls t : List Value} {g : mm_M} {x y : Int32} {o : Int} (h : mm_tb G μ pc = some (.if_icmp .ne o, a, b, w)) (hc : ¬ x = y) (r : mm_R) : mm_Rn G d μ pc ls (.int y :: .int x :: t) g r ↔ mm_Rn G d μ (a) (ls) (t) (g) r :=
  mm_Rn_step (fun f => by unfold mm_stp; rw [h]; exact if_pos hc) r
theorem rn_icmp_ne_f {G : mm_G} {d μ pc a b w : Nat} {ls t : List Value} {g : mm_M} {x y : Int32} {o : Int} (h : mm_tb G μ pc = some (.if_icmp .ne o, a, b, w)) (hc : ¬ (¬ x = y)) (r : mm_R) : mm_Rn G d μ pc ls (.int y :: .int x :: t) g r ↔ mm_Rn G d μ (pc + 3) (ls) (t) (g) r :=
  mm_Rn_step (fun f => by unfold mm_stp; rw [h]; exact if_neg hc) r
theorem rn_icmp_lt_t {G : mm_G} {d μ pc a b w : Nat} {ls t : List Value} {g : mm_M} {x y : Int32} {o : Int} (h : mm_tb G μ pc = some (.if_icmp .lt o, a, b, w)) (hc : x < y) (r : mm_R) : mm_Rn G d μ pc ls (.int y :: .int x :: t) g r ↔ mm_Rn G d μ (a) (ls) (t) (g) r :=
  mm_Rn_step (fun f => by unfold mm_stp; rw [h]; exact if_pos hc) r
theorem rn_icmp_lt_f {G : mm_G} {d μ pc a b w : Nat} {ls t : List Value} {g : mm_M} {x y : Int32} {o : Int} (h : mm_tb G μ pc = some (.if_icmp .lt o, a, b, w)) (hc : ¬ (x < y)) (r : mm_R) : mm_Rn G d μ pc ls (.int y :: .int x :: t) g r ↔ mm_Rn G d μ (pc + 3) (ls) (t) (g) r :=
  mm_Rn_step (fun f => by unfold mm_stp; rw [h]; exact if_neg hc) r
theorem rn_icmp_ge_t {G : mm_G} {d μ pc a b w : Nat} {ls t : List Value} {g : mm_M} {x y : Int32} {o : Int} (h : mm_tb G μ pc = some (.if_icmp .ge o, a, b, w)) (hc : y ≤ x) (r : mm_R) : mm_Rn G d μ pc ls (.int y :: .int x :: t) g r ↔ mm_Rn G d μ (a) (ls) (t) (g) r :=
  mm_Rn_step (fun f => by unfold mm_stp; rw [h]; exact if_pos hc) r
theorem rn_icmp_ge_f {G : mm_G} {d μ pc a b w : Nat} {ls t : List Value} {g : mm_M} {x y : Int32} {o : Int} (h : mm_tb G μ pc = some (.if_icmp .ge o, a, b, w)) (hc : ¬ (y ≤ x)) (r : mm_R) : mm_Rn G d μ pc ls (.int y :: .int x :: t) g r ↔ mm_Rn G d μ (pc + 3) (ls) (t) (g) r :=
  mm_Rn_step (fun f => by unfold mm_stp; rw [h]; exact if_neg hc) r
theorem rn_icmp_gt_t {G : mm_G} {d μ pc a b w : Nat} {ls t : List Value} {g : mm_M} {x y : Int32} {o : Int} (h : mm_tb G μ pc = some (.if_icmp .gt o, a, b, w)) (hc : y < x) (r : mm_R) : mm_Rn G d μ pc ls (.int y :: .int x :: t) g r ↔ mm_Rn G d μ (a) (ls) (t) (g) r :=
  mm_Rn_step (fun f => by unfold mm_stp; rw [h]; exact if_pos hc) r
theorem rn_icmp_gt_f {G : mm_G} {d μ pc a b w : Nat} {ls t : List Value} {g : mm_M} {x y : Int32} {o : Int} (h : mm_tb G μ pc = some (.if_icmp .gt o, a, b, w)) (hc : ¬ (y < x)) (r : mm_R) : mm_Rn G d μ pc ls (.int y :: .int x :: t) g r ↔ mm_Rn G d μ (pc + 3) (ls) (t) (g) r :=
  mm_Rn_step (fun f => by unfold mm_stp; rw [h]; exact if_neg hc) r
theorem rn_icmp_le_t {G : mm_G} {d μ pc a b w : Nat} {ls t : List Value} {g : mm_M} {x y : Int32} {o : Int} (h : mm_tb G μ pc = some (.if_icmp .le o, a, b, w)) (hc : x ≤ y) (r : mm_R) : mm_Rn G d μ pc ls (.int y :: .int x :: t) g r ↔ mm_Rn G d μ (a) (ls) (t) (g) r :=
  mm_Rn_step (fun f => by unfold mm_stp; rw [h]; exact if_pos hc) r
theorem rn_icmp_le_f {G : mm_G} {d μ pc a b w : Nat} {ls t : List Value} {g : mm_M} {x y : Int32} {o : Int} (h : mm_tb G μ pc = some (.if_icmp .le o, a, b, w)) (hc : ¬ (x ≤ y)) (r : mm_R) : mm_Rn G d μ pc ls (.int y :: .int x :: t) g r ↔ mm_Rn G d μ (pc + 3) (ls) (t) (g) r :=
  mm_Rn_step (fun f => by unfold mm_stp; rw [h]; exact if_neg hc) r
theorem rn_goto {G : mm_G} {d μ pc a b w : Nat} {ls t : List Value} {g : mm_M} {o : Int} (h : mm_tb G μ pc = some (.goto o, a, b, w)) (r : mm_R) : mm_Rn G d μ pc ls (t) g r ↔ mm_Rn G d μ (a) (ls) (t) (g) r :=
  mm_Rn_step (fun f => by unfold mm_stp; rw [h] <;> rfl) r
theorem rn_ts {G : mm_G} {d μ pc a b w : Nat} {ls t : List Value} {g : mm_M} {x : Int32} {df lo hi off : Int} {offs : Array Int} {tg : Nat} (h : mm_tb G μ pc = some (.tableswitch df lo hi offs, a, b, w)) (ho : (if x.toInt < lo ∨ hi < x.toInt then some df else offs[(x.toInt - lo).toNat]?) = some off) (ht : (pc : Int) + off = (tg : Int)) (r : mm_R) : mm_Rn G d μ pc ls (.int x :: t) g r ↔ mm_Rn G d μ (tg) (ls) (t) (g) r :=
  mm_Rn_step (fun f => by unfold mm_stp; rw [h]; refine (show mm_go (if x.toInt < lo ∨ hi < x.toInt then some df else offs[(x.toInt - lo).toNat]?) pc (fun tt => f d μ tt ls t g) = _ from ?_); rw [ho]; refine (if_pos (by omega)).trans ?_; rw [ht]; rfl) r
theorem rn_getfield {G : mm_G} {d μ pc a b w : Nat} {ls t : List Value} {g : mm_M} {i x : Nat} (h : mm_tb G μ pc = some (.getfield i, a, b, w)) (hT : g.1 x = some (a, mm_sl G a)) (r : mm_R) : mm_Rn G d μ pc ls (.ref x :: t) g r ↔ mm_Rn G d μ (pc + 3) (ls) (g.2.1 x b :: t) (g) r :=
  mm_Rn_step (fun f => by unfold mm_stp; rw [h]; exact if_pos hT) r
theorem rn_putfield {G : mm_G} {d μ pc a b w : Nat} {ls t : List Value} {g : mm_M} {i x : Nat} {v : Value} (h : mm_tb G μ pc = some (.putfield i, a, b, w)) (hT : g.1 x = some (a, mm_sl G a)) (hf : fits (mm_ft G a b) v = true) (r : mm_R) : mm_Rn G d μ pc ls (v :: .ref x :: t) g r ↔ mm_Rn G d μ (pc + 3) (ls) (t) (mm_wr g x b v) r :=
  mm_Rn_step (fun f => by unfold mm_stp; rw [h]; exact if_pos ⟨hT, hf⟩) r
theorem rn_iaload {G : mm_G} {d μ pc a b w : Nat} {ls t : List Value} {g : mm_M} {x : Nat} {j : Int32} (h : mm_tb G μ pc = some (.iaload, a, b, w)) (hc : mm_in (g.1 x) 100 101 j = true) (r : mm_R) : mm_Rn G d μ pc ls (.int j :: .ref x :: t) g r ↔ mm_Rn G d μ (pc + 1) (ls) (g.2.1 x j.toNatClampNeg :: t) (g) r :=
  mm_Rn_step (fun f => by unfold mm_stp; rw [h]; exact if_pos hc) r
theorem rn_aaload {G : mm_G} {d μ pc a b w : Nat} {ls t : List Value} {g : mm_M} {x : Nat} {j : Int32} (h : mm_tb G μ pc = some (.aaload, a, b, w)) (hc : mm_in (g.1 x) 102 103 j = true) (r : mm_R) : mm_Rn G d μ pc ls (.int j :: .ref x :: t) g r ↔ mm_Rn G d μ (pc + 1) (ls) (g.2.1 x j.toNatClampNeg :: t) (g) r :=
  mm_Rn_step (fun f => by unfold mm_stp; rw [h]; exact if_pos hc) r
theorem rn_iastore {G : mm_G} {d μ pc a b w : Nat} {ls t : List Value} {g : mm_M} {x : Nat} {j v : Int32} (h : mm_tb G μ pc = some (.iastore, a, b, w)) (hc : mm_in (g.1 x) 100 100 j = true) (r : mm_R) : mm_Rn G d μ pc ls (.int v :: .int j :: .ref x :: t) g r ↔ mm_Rn G d μ (pc + 1) (ls) (t) (mm_wr g x j.toNatClampNeg (.int v)) r :=
  mm_Rn_step (fun f => by unfold mm_stp; rw [h]; exact if_pos hc) r
theorem rn_aastore {G : mm_G} {d μ pc a b w : Nat} {ls t : List Value} {g : mm_M} {x v : Nat} {j : Int32} (h : mm_tb G μ pc = some (.aastore, a, b, w)) (hc : mm_in (g.1 x) a a j = true) (hv : g.1 v = some (b, mm_sl G b)) (r : mm_R) : mm_Rn G d μ pc ls (.ref v :: .int j :: .ref x :: t) g r ↔ mm_Rn G d μ (pc + 1) (ls) (t) (mm_wr g x j.toNatClampNeg (.ref v)) r :=
  mm_Rn_step (fun f => by unfold mm_stp; rw [h]; exact if_pos ⟨hc, hv⟩) r
theorem rn_alen {G : mm_G} {d μ pc a b w : Nat} {ls t : List Value} {g : mm_M} {x kd len : Nat} (h : mm_tb G μ pc = some (.arraylength, a, b, w)) (hT : g.1 x = some (kd, len)) (h1 : 100 ≤ kd) (h2 : kd ≤ 103) (r : mm_R) : mm_Rn G d μ pc ls (.ref x :: t) g r ↔ mm_Rn G d μ (pc + 1) (ls) (.int (Int32.ofNat len) :: t) (g) r :=
  mm_Rn_step (fun f => by unfold mm_stp; rw [h]; show mm_ln (g.1 x) _ = _; rw [hT]; exact if_pos ⟨h1, h2⟩) r
theorem rn_new {G : mm_G} {d μ pc a b w : Nat} {ls t : List Value} {g : mm_M} {i x : Nat} (h : mm_tb G μ pc = some (.new i, a, b, w)) (hx : mm_pk G μ pc ls g.2.1 = x) (hT : g.1 x = none) (r : mm_R) : mm_Rn G d μ pc ls (t) g r ↔ mm_Rn G d μ (pc + 3) (ls) (.ref x :: t) (mm_al g x a (mm_sl G a) fun k => defaultValue (mm_ft G a k)) r :=
  mm_Rn_step (fun f => by unfold mm_stp; rw [h]; subst hx; exact if_pos hT) r
theorem rn_newarray {G : mm_G} {d μ pc a b w : Nat} {ls t : List Value} {g : mm_M} {ty : ArrayType} {x : Nat} {n : Int32} (h : mm_tb G μ pc = some (.newarray ty, a, b, w)) (hx : mm_pk G μ pc ls g.2.1 = x) (hT : g.1 x = none) (h0 : 0 ≤ n) (h1 : n.toNatClampNeg ≤ 1000) (r : mm_R) : mm_Rn G d μ pc ls (.int n :: t) g r ↔ mm_Rn G d μ (pc + 2) (ls) (.ref x :: t) (mm_al g x 100 n.toNatClampNeg fun _ => .int 0) r :=
  mm_Rn_step (fun f => by unfold mm_stp; rw [h]; subst hx; exact if_pos ⟨hT, h0, h1⟩) r
theorem rn_anewarray {G : mm_G} {d μ pc a b w : Nat} {ls t : List Value} {g : mm_M} {i x : Nat} {n : Int32} (h : mm_tb G μ pc = some (.anewarray i, a, b, w)) (hx : mm_pk G μ pc ls g.2.1 = x) (hT : g.1 x = none) (h0 : 0 ≤ n) (h1 : n.toNatClampNeg ≤ 1000) (r : mm_R) : mm_Rn G d μ pc ls (.int n :: t) g r ↔ mm_Rn G d μ (pc + 3) (ls) (.ref x :: t) (mm_al g x a n.toNatClampNeg fun _ => .null) r :=
  mm_Rn_step (fun f => by unfold mm_stp; rw [h]; subst hx; exact if_pos ⟨hT, h0, h1⟩) r
theorem rn_max {G : mm_G} {d μ pc b w i : Nat} {ls t : List Value} {g : mm_M} {x y : Int32} (h : mm_tb G μ pc = some (.invokestatic i, 999, b, w)) (hl : t.length ≤ 4) (r : mm_R) : mm_Rn G (d + 1) μ pc ls (.int y :: .int x :: t) g r ↔ mm_Rn G (d + 1) μ (pc + 3) ls (.int (if x < y then y else x) :: t) g r :=
  mm_Rn_step (fun f => by unfold mm_stp; rw [h]; exact (if_pos rfl).trans ((if_neg (by omega)).trans (if_pos hl))) r
theorem rn_oinit {G : mm_G} {d μ pc b w i x : Nat} {ls t : List Value} {g : mm_M} (h : mm_tb G μ pc = some (.invokespecial i, 998, b, w)) (hl : t.length ≤ 4) (r : mm_R) : mm_Rn G (d + 1) μ pc ls (.ref x :: t) g r ↔ mm_Rn G (d + 1) μ (pc + 3) ls t g r :=
  mm_Rn_step (fun f => by unfold mm_stp; rw [h]; exact (if_pos rfl).trans ((if_neg (by omega)).trans (if_pos hl))) r
theorem rn_stat {G : mm_G} {d μ pc a n w i : Nat} {ls st : List Value} {g : mm_M} {q : mm_R} (h : mm_tb G μ pc = some (.invokestatic i, a, n, w)) (ha : a ≠ 999) (hc : n ≤ st.length ∧ (st.drop n).length ≤ 4 ∧ (st.take n).all mm_ar = true)
    (hq : mm_Rn G d a 0 ((st.take n).reverse ++ List.replicate (mm_mx G a - n) (.retAddr 0)) [] (g.1, g.2.1, 0, 0) q) (r : mm_R) : mm_Rn G (d + 1) μ pc ls st g r ↔ mm_Rn G (d + 1) μ (pc + 3) ls (q.1.toList ++ st.drop n) (q.2.1, q.2.2.1, g.2.2.1 + q.2.2.2.1, g.2.2.2 + q.2.2.2.2) r :=
  mm_Rn_call (fun f => by unfold mm_stp; rw [h]; exact if_neg ha) hc hq
theorem rn_virt {G : mm_G} {d μ pc a n w i : Nat} {ls st : List Value} {g : mm_M} {q : mm_R} (h : mm_tb G μ pc = some (.invokevirtual i, a, n, w)) (hv : mm_rv G a n st g.1 = true) (hc : n ≤ st.length ∧ (st.drop n).length ≤ 4 ∧ (st.take n).all mm_ar = true)
    (hq : mm_Rn G d a 0 ((st.take n).reverse ++ List.replicate (mm_mx G a - n) (.retAddr 0)) [] (g.1, g.2.1, 0, 0) q) (r : mm_R) : mm_Rn G (d + 1) μ pc ls st g r ↔ mm_Rn G (d + 1) μ (pc + 3) ls (q.1.toList ++ st.drop n) (q.2.1, q.2.2.1, g.2.2.1 + q.2.2.2.1, g.2.2.2 + q.2.2.2.2) r :=
  mm_Rn_call (fun f => by unfold mm_stp; rw [h]; exact if_pos hv) hc hq
theorem rn_spec {G : mm_G} {d μ pc a n w i : Nat} {ls st : List Value} {g : mm_M} {q : mm_R} (h : mm_tb G μ pc = some (.invokespecial i, a, n, w)) (ha : a ≠ 998) (hf : mm_rf n st = true) (hc : n ≤ st.length ∧ (st.drop n).length ≤ 4 ∧ (st.take n).all mm_ar = true)
    (hq : mm_Rn G d a 0 ((st.take n).reverse ++ List.replicate (mm_mx G a - n) (.retAddr 0)) [] (g.1, g.2.1, 0, 0) q) (r : mm_R) : mm_Rn G (d + 1) μ pc ls st g r ↔ mm_Rn G (d + 1) μ (pc + 3) ls (q.1.toList ++ st.drop n) (q.2.1, q.2.2.1, g.2.2.1 + q.2.2.2.1, g.2.2.2 + q.2.2.2.2) r :=
  mm_Rn_call (fun f => by unfold mm_stp; rw [h]; exact (if_neg ha).trans (if_pos hf)) hc hq
theorem rn_ireturn {G : mm_G} {d μ pc a b w : Nat} {ls : List Value} {g : mm_M} {x : Int32} (h : mm_tb G μ pc = some (.ireturn, a, b, w)) (hb : mm_rb G μ = 1 ∨ mm_rb G μ = 2 ∧ (x = 0 ∨ x = 1)) : mm_Rn G d μ pc ls [.int x] g (some (.int x), g) :=
  mm_Rn_ret (fun f => by unfold mm_stp; rw [h]; exact if_pos ⟨rfl, hb⟩)
theorem rn_return {G : mm_G} {d μ pc a b w : Nat} {ls : List Value} {g : mm_M} (h : mm_tb G μ pc = some (.return_, a, b, w)) (hb : mm_rb G μ = 0) : mm_Rn G d μ pc ls [] g (none, g) :=
  mm_Rn_ret (fun f => by unfold mm_stp; rw [h]; exact if_pos ⟨rfl, hb⟩)
theorem rn_if_eq {G : mm_G} {d μ pc a b w : Nat} {ls t : List Value} {g : mm_M} {x : Int32} {o : Int} (h : mm_tb G μ pc = some (.ifCond .eq o, a, b, w)) (r : mm_R) : mm_Rn G d μ pc ls (.int x :: t) g r ↔ if x = 0 then mm_Rn G d μ (a) ls t g r else mm_Rn G d μ (pc + 3) ls t g r := by
  by_cases hc : x = 0
  · rw [if_pos hc]; exact rn_if_eq_t h hc r
  · rw [if_neg hc]; exact rn_if_eq_f h hc r
theorem rn_if_ne {G : mm_G} {d μ pc a b w : Nat} {ls t : List Value} {g : mm_M} {x : Int32} {o : Int} (h : mm_tb G μ pc = some (.ifCond .ne o, a, b, w)) (r : mm_R) : mm_Rn G d μ pc ls (.int x :: t) g r ↔ if x = 0 then mm_Rn G d μ (pc + 3) ls t g r else mm_Rn G d μ (a) ls t g r := by
  by_cases hc : x = 0
  · rw [if_pos hc]; exact rn_if_ne_f h (fun z => z hc) r
  · rw [if_neg hc]; exact rn_if_ne_t h hc r
theorem rn_if_lt {G : mm_G} {d μ pc a b w : Nat} {ls t : List Value} {g : mm_M} {x : Int32} {o : Int} (h : mm_tb G μ pc = some (.ifCond .lt o, a, b, w)) (r : mm_R) : mm_Rn G d μ pc ls (.int x :: t) g r ↔ if x < 0 then mm_Rn G d μ (a) ls t g r else mm_Rn G d μ (pc + 3) ls t g r := by
  by_cases hc : x < 0
  · rw [if_pos hc]; exact rn_if_lt_t h hc r
  · rw [if_neg hc]; exact rn_if_lt_f h hc r
theorem rn_if_ge {G : mm_G} {d μ pc a b w : Nat} {ls t : List Value} {g : mm_M} {x : Int32} {o : Int} (h : mm_tb G μ pc = some (.ifCond .ge o, a, b, w)) (r : mm_R) : mm_Rn G d μ pc ls (.int x :: t) g r ↔ if 0 ≤ x then mm_Rn G d μ (a) ls t g r else mm_Rn G d μ (pc + 3) ls t g r := by
  by_cases hc : 0 ≤ x
  · rw [if_pos hc]; exact rn_if_ge_t h hc r
  · rw [if_neg hc]; exact rn_if_ge_f h hc r
theorem rn_if_gt {G : mm_G} {d μ pc a b w : Nat} {ls t : List Value} {g : mm_M} {x : Int32} {o : Int} (h : mm_tb G μ pc = some (.ifCond .gt o, a, b, w)) (r : mm_R) : mm_Rn G d μ pc ls (.int x :: t) g r ↔ if 0 < x then mm_Rn G d μ (a) ls t g r else mm_Rn G d μ (pc + 3) ls t g r := by
  by_cases hc : 0 < x
  · rw [if_pos hc]; exact rn_if_gt_t h hc r
  · rw [if_neg hc]; exact rn_if_gt_f h hc r
theorem rn_if_le {G : mm_G} {d μ pc a b w : Nat} {ls t : List Value} {g : mm_M} {x : Int32} {o : Int} (h : mm_tb G μ pc = some (.ifCond .le o, a, b, w)) (r : mm_R) : mm_Rn G d μ pc ls (.int x :: t) g r ↔ if x ≤ 0 then mm_Rn G d μ (a) ls t g r else mm_Rn G d μ (pc + 3) ls t g r := by
  by_cases hc : x ≤ 0
  · rw [if_pos hc]; exact rn_if_le_t h hc r
  · rw [if_neg hc]; exact rn_if_le_f h hc r
theorem rn_icmp_eq {G : mm_G} {d μ pc a b w : Nat} {ls t : List Value} {g : mm_M} {x y : Int32} {o : Int} (h : mm_tb G μ pc = some (.if_icmp .eq o, a, b, w)) (r : mm_R) : mm_Rn G d μ pc ls (.int y :: .int x :: t) g r ↔ if x = y then mm_Rn G d μ (a) ls t g r else mm_Rn G d μ (pc + 3) ls t g r := by
  by_cases hc : x = y
  · rw [if_pos hc]; exact rn_icmp_eq_t h hc r
  · rw [if_neg hc]; exact rn_icmp_eq_f h hc r
theorem rn_icmp_ne {G : mm_G} {d μ pc a b w : Nat} {ls t : List Value} {g : mm_M} {x y : Int32} {o : Int} (h : mm_tb G μ pc = some (.if_icmp .ne o, a, b, w)) (r : mm_R) : mm_Rn G d μ pc ls (.int y :: .int x :: t) g r ↔ if x = y then mm_Rn G d μ (pc + 3) ls t g r else mm_Rn G d μ (a) ls t g r := by
  by_cases hc : x = y
  · rw [if_pos hc]; exact rn_icmp_ne_f h (fun z => z hc) r
  · rw [if_neg hc]; exact rn_icmp_ne_t h hc r
theorem rn_icmp_lt {G : mm_G} {d μ pc a b w : Nat} {ls t : List Value} {g : mm_M} {x y : Int32} {o : Int} (h : mm_tb G μ pc = some (.if_icmp .lt o, a, b, w)) (r : mm_R) : mm_Rn G d μ pc ls (.int y :: .int x :: t) g r ↔ if x < y then mm_Rn G d μ (a) ls t g r else mm_Rn G d μ (pc + 3) ls t g r := by
  by_cases hc : x < y
  · rw [if_pos hc]; exact rn_icmp_lt_t h hc r
  · rw [if_neg hc]; exact rn_icmp_lt_f h hc r
theorem rn_icmp_ge {G : mm_G} {d μ pc a b w : Nat} {ls t : List Value} {g : mm_M} {x y : Int32} {o : Int} (h : mm_tb G μ pc = some (.if_icmp .ge o, a, b, w)) (r : mm_R) : mm_Rn G d μ pc ls (.int y :: .int x :: t) g r ↔ if y ≤ x then mm_Rn G d μ (a) ls t g r else mm_Rn G d μ (pc + 3) ls t g r := by
  by_cases hc : y ≤ x
  · rw [if_pos hc]; exact rn_icmp_ge_t h hc r
  · rw [if_neg hc]; exact rn_icmp_ge_f h hc r
theorem rn_icmp_gt {G : mm_G} {d μ pc a b w : Nat} {ls t : List Value} {g : mm_M} {x y : Int32} {o : Int} (h : mm_tb G μ pc = some (.if_icmp .gt o, a, b, w)) (r : mm_R) : mm_Rn G d μ pc ls (.int y :: .int x :: t) g r ↔ if y < x then mm_Rn G d μ (a) ls t g r else mm_Rn G d μ (pc + 3) ls t g r := by
  by_cases hc : y < x
  · rw [if_pos hc]; exact rn_icmp_gt_t h hc r
  · rw [if_neg hc]; exact rn_icmp_gt_f h hc r
theorem rn_icmp_le {G : mm_G} {d μ pc a b w : Nat} {ls t : List Value} {g : mm_M} {x y : Int32} {o : Int} (h : mm_tb G μ pc = some (.if_icmp .le o, a, b, w)) (r : mm_R) : mm_Rn G d μ pc ls (.int y :: .int x :: t) g r ↔ if x ≤ y then mm_Rn G d μ (a) ls t g r else mm_Rn G d μ (pc + 3) ls t g r := by
  by_cases hc : x ≤ y
  · rw [if_pos hc]; exact rn_icmp_le_t h hc r
  · rw [if_neg hc]; exact rn_icmp_le_f h hc r
theorem rn_ireturn_iff {G : mm_G} {d μ pc a b w : Nat} {ls : List Value} {g : mm_M} {x : Int32} (h : mm_tb G μ pc = some (.ireturn, a, b, w)) (hb : mm_rb G μ = 1 ∨ mm_rb G μ = 2 ∧ (x = 0 ∨ x = 1)) (r : mm_R) : mm_Rn G d μ pc ls [.int x] g r ↔ r = (some (.int x), g) :=
  ⟨fun hr => mm_det hr (rn_ireturn h hb), fun e => e ▸ rn_ireturn h hb⟩
theorem rn_return_iff {G : mm_G} {d μ pc a b w : Nat} {ls : List Value} {g : mm_M} (h : mm_tb G μ pc = some (.return_, a, b, w)) (hb : mm_rb G μ = 0) (r : mm_R) : mm_Rn G d μ pc ls [] g r ↔ r = (none, g) :=
  ⟨fun hr => mm_det hr (rn_return h hb), fun e => e ▸ rn_return h hb⟩
theorem mm_so_of {ls : List Value} {i n : Nat} {v : Value} (h1 : i + n ≤ ls.length) (h2 : mm_ld ls (i - 1) = v) (hv : mm_c1 v = true) : mm_so ls i n = true := by
  unfold mm_so
  rw [h2, decide_eq_true h1, show decide (v.category = 1) = true from hv, Bool.or_true, Bool.and_true]
end
section
/-! the program: its tables -/
def sp_r (v : Value) : Nat := match v with
  | .ref x => x
  | .int x => x.toNatClampNeg
  | _ => 0
/-- StackPolicyKernel$Section.<init>(III)V -/
def pg_t0 : List (Nat × mm_E) := [(0, .aload_n 0, 0, 0, 0), (1, .invokespecial 1, 998, 0, 194), (4, .aload_n 0, 0, 0, 0), (5, .iload_n 1, 0, 0, 0), (6, .putfield 7, 4, 0, 195), (9, .aload_n 0, 0, 0, 0), (10, .iload_n 2, 0, 0, 0), (11, .putfield 13, 4, 1, 197), (14, .aload_n 0, 0, 0, 0), (15, .iload_n 3, 0, 0, 0), (16, .putfield 16, 4, 2, 199), (19, .return_, 0, 0, 0)]
/-- StackPolicyKernel$Section.agreesWith(III)Z -/
def pg_t1 : List (Nat × mm_E) := [(0, .iload_n 3, 0, 0, 0), (1, .aload_n 0, 0, 0, 0), (2, .getfield 13, 4, 1, 197), (5, .if_icmp .le 11, 16, 0, 0), (8, .aload_n 0, 0, 0, 0), (9, .getfield 16, 4, 2, 199), (12, .iload_n 2, 0, 0, 0), (13, .if_icmp .gt 7, 20, 0, 0), (16, .iconst 1, 0, 0, 0), (17, .goto 4, 21, 0, 0), (20, .iconst 0, 0, 0, 0), (21, .istore 4, 0, 0, 0), (23, .aload_n 0, 0, 0, 0), (24, .getfield 13, 4, 1, 197), (27, .iload_n 2, 0, 0, 0), (28, .if_icmp .gt 15, 43, 0, 0), (31, .iload_n 3, 0, 0, 0), (32, .aload_n 0, 0, 0, 0), (33, .getfield 16, 4, 2, 199), (36, .if_icmp .gt 7, 43, 0, 0), (39, .iconst 1, 0, 0, 0), (40, .goto 4, 44, 0, 0), (43, .iconst 0, 0, 0, 0), (44, .istore 5, 0, 0, 0), (46, .iload_n 2, 0, 0, 0), (47, .aload_n 0, 0, 0, 0), (48, .getfield 13, 4, 1, 197), (51, .if_icmp .gt 15, 66, 0, 0), (54, .aload_n 0, 0, 0, 0), (55, .getfield 16, 4, 2, 199), (58, .iload_n 3, 0, 0, 0), (59, .if_icmp .gt 7, 66, 0, 0), (62, .iconst 1, 0, 0, 0), (63, .goto 4, 67, 0, 0), (66, .iconst 0, 0, 0, 0), (67, .istore 6, 0, 0, 0), (69, .iload 4, 0, 0, 0), (71, .ifCond .ne 21, 92, 0, 0), (74, .iload_n 1, 0, 0, 0), (75, .aload_n 0, 0, 0, 0), (76, .getfield 7, 4, 0, 195), (79, .if_icmp .eq 17, 96, 0, 0), (82, .iload 5, 0, 0, 0), (84, .ifCond .ne 8, 92, 0, 0), (87, .iload 6, 0, 0, 0), (89, .ifCond .eq 7, 96, 0, 0), (92, .iconst 1, 0, 0, 0), (93, .goto 4, 97, 0, 0), (96, .iconst 0, 0, 0, 0), (97, .ireturn, 0, 0, 0)]
/-- StackPolicyKernel$Section.isHeldAfter(I)Z -/
def pg_t2 : List (Nat × mm_E) := [(0, .aload_n 0, 0, 0, 0), (1, .getfield 13, 4, 1, 197), (4, .iload_n 1, 0, 0, 0), (5, .if_icmp .ge 15, 20, 0, 0), (8, .iload_n 1, 0, 0, 0), (9, .aload_n 0, 0, 0, 0), (10, .getfield 16, 4, 2, 199), (13, .if_icmp .ge 7, 20, 0, 0), (16, .iconst 1, 0, 0, 0), (17, .goto 4, 21, 0, 0), (20, .iconst 0, 0, 0, 0), (21, .ireturn, 0, 0, 0)]
/-- StackPolicyKernel$Job.<init>()V -/
def pg_t3 : List (Nat × mm_E) := [(0, .aload_n 0, 0, 0, 0), (1, .invokespecial 3, 998, 0, 123), (4, .aload_n 0, 0, 0, 0), (5, .bipush 6, 0, 0, 0), (7, .newarray .int, 0, 0, 0), (9, .putfield 9, 5, 0, 124), (12, .aload_n 0, 0, 0, 0), (13, .iconst 0, 0, 0, 0), (14, .putfield 15, 5, 1, 125), (17, .aload_n 0, 0, 0, 0), (18, .iconst 0, 0, 0, 0), (19, .putfield 19, 5, 2, 126), (22, .aload_n 0, 0, 0, 0), (23, .iconst 0, 0, 0, 0), (24, .putfield 22, 5, 3, 128), (27, .aload_n 0, 0, 0, 0), (28, .iconst 0, 0, 0, 0), (29, .putfield 25, 5, 4, 130), (32, .aload_n 0, 0, 0, 0), (33, .iconst 0, 0, 0, 0), (34, .putfield 28, 5, 5, 132), (37, .aload_n 0, 0, 0, 0), (38, .iconst 0, 0, 0, 0), (39, .putfield 31, 5, 6, 133), (42, .return_, 0, 0, 0)]
/-- StackPolicyKernel$Job.wasReleased()Z -/
def pg_t4 : List (Nat × mm_E) := [(0, .aload_n 0, 0, 0, 0), (1, .getfield 15, 5, 1, 125), (4, .ifCond .le 7, 11, 0, 0), (7, .iconst 1, 0, 0, 0), (8, .goto 4, 12, 0, 0), (11, .iconst 0, 0, 0, 0), (12, .ireturn, 0, 0, 0)]
/-- StackPolicyKernel$Job.isPending()Z -/
def pg_t5 : List (Nat × mm_E) := [(0, .aload_n 0, 0, 0, 0), (1, .getfield 19, 5, 2, 126), (4, .aload_n 0, 0, 0, 0), (5, .getfield 15, 5, 1, 125), (8, .if_icmp .ge 7, 15, 0, 0), (11, .iconst 1, 0, 0, 0), (12, .goto 4, 16, 0, 0), (15, .iconst 0, 0, 0, 0), (16, .ireturn, 0, 0, 0)]
/-- StackPolicyKernel$Job.hasRun()Z -/
def pg_t6 : List (Nat × mm_E) := [(0, .aload_n 0, 0, 0, 0), (1, .getfield 19, 5, 2, 126), (4, .ifCond .le 7, 11, 0, 0), (7, .iconst 1, 0, 0, 0), (8, .goto 4, 12, 0, 0), (11, .iconst 0, 0, 0, 0), (12, .ireturn, 0, 0, 0)]
/-- StackPolicyKernel$Job.begin(III)V -/
def pg_t7 : List (Nat × mm_E) := [(0, .aload_n 0, 0, 0, 0), (1, .iload_n 1, 0, 0, 0), (2, .putfield 15, 5, 1, 125), (5, .aload_n 0, 0, 0, 0), (6, .iconst 0, 0, 0, 0), (7, .putfield 19, 5, 2, 126), (10, .aload_n 0, 0, 0, 0), (11, .iload_n 2, 0, 0, 0), (12, .putfield 22, 5, 3, 128), (15, .aload_n 0, 0, 0, 0), (16, .iload_n 2, 0, 0, 0), (17, .iload_n 3, 0, 0, 0), (18, .iadd, 0, 0, 0), (19, .putfield 25, 5, 4, 130), (22, .aload_n 0, 0, 0, 0), (23, .iconst 0, 0, 0, 0), (24, .putfield 28, 5, 5, 132), (27, .aload_n 0, 0, 0, 0), (28, .iconst 0, 0, 0, 0), (29, .putfield 31, 5, 6, 133), (32, .iconst 0, 0, 0, 0), (33, .istore 4, 0, 0, 0), (35, .iload 4, 0, 0, 0), (37, .bipush 6, 0, 0, 0), (39, .if_icmp .ge 17, 56, 0, 0), (42, .aload_n 0, 0, 0, 0), (43, .getfield 9, 5, 0, 124), (46, .iload 4, 0, 0, 0), (48, .iconst 0, 0, 0, 0), (49, .iastore, 0, 0, 0), (50, .iinc 4 1, 0, 0, 0), (53, .goto (-18), 35, 0, 0), (56, .return_, 0, 0, 0)]
/-- StackPolicyKernel$Job.noteBlocked(II)V -/
def pg_t8 : List (Nat × mm_E) := [(0, .aload_n 0, 0, 0, 0), (1, .dup, 0, 0, 0), (2, .getfield 31, 5, 6, 133), (5, .iconst 1, 0, 0, 0), (6, .iadd, 0, 0, 0), (7, .putfield 31, 5, 6, 133), (10, .iload_n 2, 0, 0, 0), (11, .ifCond .eq 30, 41, 0, 0), (14, .aload_n 0, 0, 0, 0), (15, .getfield 9, 5, 0, 124), (18, .iload_n 1, 0, 0, 0), (19, .iaload, 0, 0, 0), (20, .iload_n 2, 0, 0, 0), (21, .if_icmp .eq 20, 41, 0, 0), (24, .aload_n 0, 0, 0, 0), (25, .getfield 9, 5, 0, 124), (28, .iload_n 1, 0, 0, 0), (29, .iload_n 2, 0, 0, 0), (30, .iastore, 0, 0, 0), (31, .aload_n 0, 0, 0, 0), (32, .dup, 0, 0, 0), (33, .getfield 28, 5, 5, 132), (36, .iconst 1, 0, 0, 0), (37, .iadd, 0, 0, 0), (38, .putfield 28, 5, 5, 132), (41, .return_, 0, 0, 0)]
/-- StackPolicyKernel$Job.figure(I)I -/
def pg_t9 : List (Nat × mm_E) := [(0, .iload_n 1, 0, 0, 0), (1, .tableswitch 56 0 3 #[31, 41, 46, 51], 0, 31, 0), (32, .aload_n 0, 0, 0, 0), (33, .getfield 15, 5, 1, 125), (36, .aload_n 0, 0, 0, 0), (37, .getfield 19, 5, 2, 126), (40, .isub, 0, 0, 0), (41, .ireturn, 0, 0, 0), (42, .aload_n 0, 0, 0, 0), (43, .getfield 25, 5, 4, 130), (46, .ireturn, 0, 0, 0), (47, .aload_n 0, 0, 0, 0), (48, .getfield 28, 5, 5, 132), (51, .ireturn, 0, 0, 0), (52, .aload_n 0, 0, 0, 0), (53, .getfield 31, 5, 6, 133), (56, .ireturn, 0, 0, 0), (57, .iconst (-1), 0, 0, 0), (58, .ireturn, 0, 0, 0)]
/-- StackPolicyKernel$Task.<init>(III)V -/
def pg_t10 : List (Nat × mm_E) := [(0, .aload_n 0, 0, 0, 0), (1, .invokespecial 3, 998, 0, 117), (4, .aload_n 0, 0, 0, 0), (5, .iconst 4, 0, 0, 0), (6, .anewarray 9, 103, 0, 118), (9, .putfield 11, 3, 3, 147), (12, .aload_n 0, 0, 0, 0), (13, .new 17, 5, 0, 119), (16, .dup, 0, 0, 0), (17, .invokespecial 19, 3, 1, 2), (20, .putfield 20, 3, 4, 148), (23, .aload_n 0, 0, 0, 0), (24, .iconst 0, 0, 0, 0), (25, .putfield 24, 3, 5, 150), (28, .aload_n 0, 0, 0, 0), (29, .iconst 0, 0, 0, 0), (30, .putfield 28, 3, 6, 151), (33, .aload_n 0, 0, 0, 0), (34, .iconst 0, 0, 0, 0), (35, .putfield 31, 3, 7, 153), (38, .aload_n 0, 0, 0, 0), (39, .iconst 0, 0, 0, 0), (40, .putfield 34, 3, 8, 155), (43, .aload_n 0, 0, 0, 0), (44, .iconst 0, 0, 0, 0), (45, .putfield 37, 3, 9, 156), (48, .aload_n 0, 0, 0, 0), (49, .iload_n 1, 0, 0, 0), (50, .putfield 40, 3, 0, 141), (53, .aload_n 0, 0, 0, 0), (54, .iload_n 2, 0, 0, 0), (55, .putfield 43, 3, 1, 143), (58, .aload_n 0, 0, 0, 0), (59, .iload_n 3, 0, 0, 0), (60, .putfield 46, 3, 2, 145), (63, .return_, 0, 0, 0)]
/-- StackPolicyKernel$Task.level()I -/
def pg_t11 : List (Nat × mm_E) := [(0, .bipush 101, 0, 0, 0), (2, .aload_n 0, 0, 0, 0), (3, .getfield 43, 3, 1, 143), (6, .isub, 0, 0, 0), (7, .ireturn, 0, 0, 0)]
/-- StackPolicyKernel$Task.allowsSection(III)Z -/
def pg_t12 : List (Nat × mm_E) := [(0, .aload_n 0, 0, 0, 0), (1, .getfield 24, 3, 5, 150), (4, .iconst 4, 0, 0, 0), (5, .if_icmp .ne 5, 10, 0, 0), (8, .iconst 0, 0, 0, 0), (9, .ireturn, 0, 0, 0), (10, .iconst 0, 0, 0, 0), (11, .istore 4, 0, 0, 0), (13, .iload 4, 0, 0, 0), (15, .aload_n 0, 0, 0, 0), (16, .getfield 24, 3, 5, 150), (19, .if_icmp .ge 27, 46, 0, 0), (22, .aload_n 0, 0, 0, 0), (23, .getfield 11, 3, 3, 147), (26, .iload 4, 0, 0, 0), (28, .aaload, 0, 0, 0), (29, .iload_n 1, 0, 0, 0), (30, .iload_n 2, 0, 0, 0), (31, .iload_n 3, 0, 0, 0), (32, .invokevirtual 49, 1, 4, 182), (35, .ifCond .ne 5, 40, 0, 0), (38, .iconst 0, 0, 0, 0), (39, .ireturn, 0, 0, 0), (40, .iinc 4 1, 0, 0, 0), (43, .goto (-30), 13, 0, 0), (46, .iconst 1, 0, 0, 0), (47, .ireturn, 0, 0, 0)]
/-- StackPolicyKernel$Task.addSection(III)V -/
def pg_t13 : List (Nat × mm_E) := [(0, .aload_n 0, 0, 0, 0), (1, .getfield 11, 3, 3, 147), (4, .aload_n 0, 0, 0, 0), (5, .getfield 24, 3, 5, 150), (8, .new 9, 4, 0, 118), (11, .dup, 0, 0, 0), (12, .iload_n 1, 0, 0, 0), (13, .iload_n 2, 0, 0, 0), (14, .iload_n 3, 0, 0, 0), (15, .invokespecial 53, 0, 4, 191), (18, .aastore, 103, 4, 0), (19, .aload_n 0, 0, 0, 0), (20, .dup, 0, 0, 0), (21, .getfield 24, 3, 5, 150), (24, .iconst 1, 0, 0, 0), (25, .iadd, 0, 0, 0), (26, .putfield 24, 3, 5, 150), (29, .return_, 0, 0, 0)]
/-- StackPolicyKernel$Task.longestHold([II)I -/
def pg_t14 : List (Nat × mm_E) := [(0, .iconst 0, 0, 0, 0), (1, .istore_n 3, 0, 0, 0), (2, .iconst 0, 0, 0, 0), (3, .istore 4, 0, 0, 0), (5, .iload 4, 0, 0, 0), (7, .aload_n 0, 0, 0, 0), (8, .getfield 24, 3, 5, 150), (11, .if_icmp .ge 53, 64, 0, 0), (14, .aload_n 1, 0, 0, 0), (15, .aload_n 0, 0, 0, 0), (16, .getfield 11, 3, 3, 147), (19, .iload 4, 0, 0, 0), (21, .aaload, 0, 0, 0), (22, .getfield 56, 4, 0, 196), (25, .iaload, 0, 0, 0), (26, .iload_n 2, 0, 0, 0), (27, .if_icmp .lt 31, 58, 0, 0), (30, .iload_n 3, 0, 0, 0), (31, .aload_n 0, 0, 0, 0), (32, .getfield 11, 3, 3, 147), (35, .iload 4, 0, 0, 0), (37, .aaload, 0, 0, 0), (38, .getfield 59, 4, 2, 200), (41, .aload_n 0, 0, 0, 0), (42, .getfield 11, 3, 3, 147), (45, .iload 4, 0, 0, 0), (47, .aaload, 0, 0, 0), (48, .getfield 62, 4, 1, 198), (51, .isub, 0, 0, 0), (52, .iconst 1, 0, 0, 0), (53, .isub, 0, 0, 0), (54, .invokestatic 65, 999, 0, 237), (57, .istore_n 3, 0, 0, 0), (58, .iinc 4 1, 0, 0, 0), (61, .goto (-56), 5, 0, 0), (64, .iload_n 3, 0, 0, 0), (65, .ireturn, 0, 0, 0)]
/-- StackPolicyKernel$Task.isHeld(LStackPolicyKernel$Section;)Z -/
def pg_t15 : List (Nat × mm_E) := [(0, .aload_n 0, 0, 0, 0), (1, .getfield 20, 3, 4, 148), (4, .invokevirtual 71, 5, 1, 311), (7, .ifCond .eq 21, 28, 0, 0), (10, .aload_n 1, 0, 0, 0), (11, .aload_n 0, 0, 0, 0), (12, .getfield 20, 3, 4, 148), (15, .getfield 75, 5, 2, 127), (18, .invokevirtual 78, 2, 2, 312), (21, .ifCond .eq 7, 28, 0, 0), (24, .iconst 1, 0, 0, 0), (25, .goto 4, 29, 0, 0), (28, .iconst 0, 0, 0, 0), (29, .ireturn, 0, 0, 0)]
/-- StackPolicyKernel$Task.holds(I)Z -/
def pg_t16 : List (Nat × mm_E) := [(0, .iconst 0, 0, 0, 0), (1, .istore_n 2, 0, 0, 0), (2, .iload_n 2, 0, 0, 0), (3, .aload_n 0, 0, 0, 0), (4, .getfield 24, 3, 5, 150), (7, .if_icmp .ge 37, 44, 0, 0), (10, .aload_n 0, 0, 0, 0), (11, .getfield 11, 3, 3, 147), (14, .iload_n 2, 0, 0, 0), (15, .aaload, 0, 0, 0), (16, .getfield 56, 4, 0, 196), (19, .iload_n 1, 0, 0, 0), (20, .if_icmp .ne 18, 38, 0, 0), (23, .aload_n 0, 0, 0, 0), (24, .aload_n 0, 0, 0, 0), (25, .getfield 11, 3, 3, 147), (28, .iload_n 2, 0, 0, 0), (29, .aaload, 0, 0, 0), (30, .invokevirtual 82, 15, 2, 307), (33, .ifCond .eq 5, 38, 0, 0), (36, .iconst 1, 0, 0, 0), (37, .ireturn, 0, 0, 0), (38, .iinc 2 1, 0, 0, 0), (41, .goto (-39), 2, 0, 0), (44, .iconst 0, 0, 0, 0), (45, .ireturn, 0, 0, 0)]
/-- StackPolicyKernel$Task.holdsSomething()Z -/
def pg_t17 : List (Nat × mm_E) := [(0, .iconst 0, 0, 0, 0), (1, .istore_n 1, 0, 0, 0), (2, .iload_n 1, 0, 0, 0), (3, .aload_n 0, 0, 0, 0), (4, .getfield 24, 3, 5, 150), (7, .if_icmp .ge 24, 31, 0, 0), (10, .aload_n 0, 0, 0, 0), (11, .aload_n 0, 0, 0, 0), (12, .getfield 11, 3, 3, 147), (15, .iload_n 1, 0, 0, 0), (16, .aaload, 0, 0, 0), (17, .invokevirtual 82, 15, 2, 307), (20, .ifCond .eq 5, 25, 0, 0), (23, .iconst 1, 0, 0, 0), (24, .ireturn, 0, 0, 0), (25, .iinc 1 1, 0, 0, 0), (28, .goto (-26), 2, 0, 0), (31, .iconst 0, 0, 0, 0), (32, .ireturn, 0, 0, 0)]
/-- StackPolicyKernel$Task.highestHeld([I)I -/
def pg_t18 : List (Nat × mm_E) := [(0, .iconst 0, 0, 0, 0), (1, .istore_n 2, 0, 0, 0), (2, .iconst 0, 0, 0, 0), (3, .istore_n 3, 0, 0, 0), (4, .iload_n 3, 0, 0, 0), (5, .aload_n 0, 0, 0, 0), (6, .getfield 24, 3, 5, 150), (9, .if_icmp .ge 38, 47, 0, 0), (12, .aload_n 0, 0, 0, 0), (13, .aload_n 0, 0, 0, 0), (14, .getfield 11, 3, 3, 147), (17, .iload_n 3, 0, 0, 0), (18, .aaload, 0, 0, 0), (19, .invokevirtual 82, 15, 2, 307), (22, .ifCond .eq 19, 41, 0, 0), (25, .iload_n 2, 0, 0, 0), (26, .aload_n 1, 0, 0, 0), (27, .aload_n 0, 0, 0, 0), (28, .getfield 11, 3, 3, 147), (31, .iload_n 3, 0, 0, 0), (32, .aaload, 0, 0, 0), (33, .getfield 56, 4, 0, 196), (36, .iaload, 0, 0, 0), (37, .invokestatic 65, 999, 0, 237), (40, .istore_n 2, 0, 0, 0), (41, .iinc 3 1, 0, 0, 0), (44, .goto (-40), 4, 0, 0), (47, .iload_n 2, 0, 0, 0), (48, .ireturn, 0, 0, 0)]
/-- StackPolicyKernel$Task.runTick()V -/
def pg_t19 : List (Nat × mm_E) := [(0, .aload_n 0, 0, 0, 0), (1, .invokevirtual 86, 17, 1, 327), (4, .istore_n 1, 0, 0, 0), (5, .aload_n 0, 0, 0, 0), (6, .getfield 20, 3, 4, 148), (9, .dup, 0, 0, 0), (10, .getfield 75, 5, 2, 127), (13, .iconst 1, 0, 0, 0), (14, .iadd, 0, 0, 0), (15, .putfield 75, 5, 2, 127), (18, .aload_n 0, 0, 0, 0), (19, .invokevirtual 86, 17, 1, 327), (22, .istore_n 2, 0, 0, 0), (23, .iload_n 1, 0, 0, 0), (24, .ifCond .ne 17, 41, 0, 0), (27, .iload_n 2, 0, 0, 0), (28, .ifCond .eq 13, 41, 0, 0), (31, .aload_n 0, 0, 0, 0), (32, .dup, 0, 0, 0), (33, .getfield 34, 3, 8, 155), (36, .iconst 1, 0, 0, 0), (37, .iadd, 0, 0, 0), (38, .putfield 34, 3, 8, 155), (41, .aload_n 0, 0, 0, 0), (42, .iload_n 1, 0, 0, 0), (43, .ifCond .ne 7, 50, 0, 0), (46, .iload_n 2, 0, 0, 0), (47, .ifCond .eq 10, 57, 0, 0), (50, .aload_n 0, 0, 0, 0), (51, .getfield 34, 3, 8, 155), (54, .goto 4, 58, 0, 0), (57, .iconst 0, 0, 0, 0), (58, .putfield 37, 3, 9, 156), (61, .return_, 0, 0, 0)]
/-- StackPolicyKernel$Task.noteResponse(I)V -/
def pg_t20 : List (Nat × mm_E) := [(0, .aload_n 0, 0, 0, 0), (1, .aload_n 0, 0, 0, 0), (2, .getfield 31, 3, 7, 153), (5, .iload_n 1, 0, 0, 0), (6, .invokestatic 65, 999, 0, 237), (9, .putfield 31, 3, 7, 153), (12, .return_, 0, 0, 0)]
/-- StackPolicyKernel$Server.<init>()V -/
def pg_t21 : List (Nat × mm_E) := [(0, .aload_n 0, 0, 0, 0), (1, .invokespecial 3, 998, 0, 52), (4, .aload_n 0, 0, 0, 0), (5, .bipush 8, 0, 0, 0), (7, .newarray .int, 0, 0, 0), (9, .putfield 9, 1, 0, 53), (12, .aload_n 0, 0, 0, 0), (13, .iconst 0, 0, 0, 0), (14, .putfield 15, 1, 1, 54), (17, .aload_n 0, 0, 0, 0), (18, .iconst 0, 0, 0, 0), (19, .putfield 19, 1, 2, 55), (22, .aload_n 0, 0, 0, 0), (23, .iconst 0, 0, 0, 0), (24, .putfield 22, 1, 3, 57), (27, .aload_n 0, 0, 0, 0), (28, .iconst 0, 0, 0, 0), (29, .putfield 25, 1, 4, 59), (32, .aload_n 0, 0, 0, 0), (33, .iconst 0, 0, 0, 0), (34, .putfield 28, 1, 5, 61), (37, .aload_n 0, 0, 0, 0), (38, .iconst 0, 0, 0, 0), (39, .putfield 31, 1, 6, 62), (42, .aload_n 0, 0, 0, 0), (43, .iconst 0, 0, 0, 0), (44, .putfield 34, 1, 7, 64), (47, .aload_n 0, 0, 0, 0), (48, .iconst 0, 0, 0, 0), (49, .putfield 37, 1, 8, 65), (52, .return_, 0, 0, 0)]
/-- StackPolicyKernel$Server.exists()Z -/
def pg_t22 : List (Nat × mm_E) := [(0, .aload_n 0, 0, 0, 0), (1, .getfield 22, 1, 3, 57), (4, .ifCond .le 7, 11, 0, 0), (7, .iconst 1, 0, 0, 0), (8, .goto 4, 12, 0, 0), (11, .iconst 0, 0, 0, 0), (12, .ireturn, 0, 0, 0)]
/-- StackPolicyKernel$Server.setUp(II)V -/
def pg_t23 : List (Nat × mm_E) := [(0, .aload_n 0, 0, 0, 0), (1, .iload_n 1, 0, 0, 0), (2, .putfield 22, 1, 3, 57), (5, .aload_n 0, 0, 0, 0), (6, .iload_n 2, 0, 0, 0), (7, .putfield 25, 1, 4, 59), (10, .aload_n 0, 0, 0, 0), (11, .iload_n 1, 0, 0, 0), (12, .putfield 28, 1, 5, 61), (15, .return_, 0, 0, 0)]
/-- StackPolicyKernel$Server.takeRequest(II)Z -/
def pg_t24 : List (Nat × mm_E) := [(0, .aload_n 0, 0, 0, 0), (1, .getfield 19, 1, 2, 55), (4, .bipush 8, 0, 0, 0), (6, .if_icmp .ne 5, 11, 0, 0), (9, .iconst 0, 0, 0, 0), (10, .ireturn, 0, 0, 0), (11, .aload_n 0, 0, 0, 0), (12, .getfield 19, 1, 2, 55), (15, .ifCond .ne 50, 65, 0, 0), (18, .aload_n 0, 0, 0, 0), (19, .getfield 28, 1, 5, 61), (22, .i2l, 0, 0, 0), (23, .aload_n 0, 0, 0, 0), (24, .getfield 25, 1, 4, 59), (27, .i2l, 0, 0, 0), (28, .lmul, 0, 0, 0), (29, .aload_n 0, 0, 0, 0), (30, .getfield 31, 1, 6, 62), (33, .i2l, 0, 0, 0), (34, .iload_n 2, 0, 0, 0), (35, .i2l, 0, 0, 0), (36, .lsub, 0, 0, 0), (37, .aload_n 0, 0, 0, 0), (38, .getfield 22, 1, 3, 57), (41, .i2l, 0, 0, 0), (42, .lmul, 0, 0, 0), (43, .lcmp, 0, 0, 0), (44, .ifCond .lt 21, 65, 0, 0), (47, .aload_n 0, 0, 0, 0), (48, .iload_n 2, 0, 0, 0), (49, .aload_n 0, 0, 0, 0), (50, .getfield 25, 1, 4, 59), (53, .iadd, 0, 0, 0), (54, .putfield 31, 1, 6, 62), (57, .aload_n 0, 0, 0, 0), (58, .aload_n 0, 0, 0, 0), (59, .getfield 22, 1, 3, 57), (62, .putfield 28, 1, 5, 61), (65, .aload_n 0, 0, 0, 0), (66, .getfield 9, 1, 0, 53), (69, .aload_n 0, 0, 0, 0), (70, .aload_n 0, 0, 0, 0), (71, .getfield 19, 1, 2, 55), (74, .invokevirtual 40, 25, 2, 270), (77, .iload_n 1, 0, 0, 0), (78, .iastore, 0, 0, 0), (79, .aload_n 0, 0, 0, 0), (80, .dup, 0, 0, 0), (81, .getfield 19, 1, 2, 55), (84, .iconst 1, 0, 0, 0), (85, .iadd, 0, 0, 0), (86, .putfield 19, 1, 2, 55), (89, .iconst 1, 0, 0, 0), (90, .ireturn, 0, 0, 0)]
/-- StackPolicyKernel$Server.slot(I)I -/
def pg_t25 : List (Nat × mm_E) := [(0, .aload_n 0, 0, 0, 0), (1, .getfield 15, 1, 1, 54), (4, .iload_n 1, 0, 0, 0), (5, .iadd, 0, 0, 0), (6, .bipush 7, 0, 0, 0), (8, .iand, 0, 0, 0), (9, .ireturn, 0, 0, 0)]
/-- StackPolicyKernel$Server.runTick()V -/
def pg_t26 : List (Nat × mm_E) := [(0, .aload_n 0, 0, 0, 0), (1, .getfield 9, 1, 0, 53), (4, .aload_n 0, 0, 0, 0), (5, .getfield 15, 1, 1, 54), (8, .dup2, 0, 0, 0), (9, .iaload, 0, 0, 0), (10, .iconst 1, 0, 0, 0), (11, .isub, 0, 0, 0), (12, .iastore, 0, 0, 0), (13, .aload_n 0, 0, 0, 0), (14, .getfield 9, 1, 0, 53), (17, .aload_n 0, 0, 0, 0), (18, .getfield 15, 1, 1, 54), (21, .iaload, 0, 0, 0), (22, .ifCond .ne 32, 54, 0, 0), (25, .aload_n 0, 0, 0, 0), (26, .aload_n 0, 0, 0, 0), (27, .iconst 1, 0, 0, 0), (28, .invokevirtual 40, 25, 2, 270), (31, .putfield 15, 1, 1, 54), (34, .aload_n 0, 0, 0, 0), (35, .dup, 0, 0, 0), (36, .getfield 19, 1, 2, 55), (39, .iconst 1, 0, 0, 0), (40, .isub, 0, 0, 0), (41, .putfield 19, 1, 2, 55), (44, .aload_n 0, 0, 0, 0), (45, .dup, 0, 0, 0), (46, .getfield 37, 1, 8, 65), (49, .iconst 1, 0, 0, 0), (50, .iadd, 0, 0, 0), (51, .putfield 37, 1, 8, 65), (54, .aload_n 0, 0, 0, 0), (55, .dup, 0, 0, 0), (56, .getfield 28, 1, 5, 61), (59, .iconst 1, 0, 0, 0), (60, .isub, 0, 0, 0), (61, .putfield 28, 1, 5, 61), (64, .aload_n 0, 0, 0, 0), (65, .getfield 28, 1, 5, 61), (68, .ifCond .ne 34, 102, 0, 0), (71, .aload_n 0, 0, 0, 0), (72, .aload_n 0, 0, 0, 0), (73, .getfield 22, 1, 3, 57), (76, .putfield 28, 1, 5, 61), (79, .aload_n 0, 0, 0, 0), (80, .dup, 0, 0, 0), (81, .getfield 31, 1, 6, 62), (84, .aload_n 0, 0, 0, 0), (85, .getfield 25, 1, 4, 59), (88, .iadd, 0, 0, 0), (89, .putfield 31, 1, 6, 62), (92, .aload_n 0, 0, 0, 0), (93, .dup, 0, 0, 0), (94, .getfield 34, 1, 7, 64), (97, .iconst 1, 0, 0, 0), (98, .iadd, 0, 0, 0), (99, .putfield 34, 1, 7, 64), (102, .return_, 0, 0, 0)]
/-- StackPolicyKernel$Server.neededTicks()I -/
def pg_t27 : List (Nat × mm_E) := [(0, .iconst 0, 0, 0, 0), (1, .istore_n 1, 0, 0, 0), (2, .iconst 0, 0, 0, 0), (3, .istore_n 2, 0, 0, 0), (4, .iload_n 2, 0, 0, 0), (5, .aload_n 0, 0, 0, 0), (6, .getfield 19, 1, 2, 55), (9, .if_icmp .ge 22, 31, 0, 0), (12, .iload_n 1, 0, 0, 0), (13, .aload_n 0, 0, 0, 0), (14, .getfield 9, 1, 0, 53), (17, .aload_n 0, 0, 0, 0), (18, .iload_n 2, 0, 0, 0), (19, .invokevirtual 40, 25, 2, 270), (22, .iaload, 0, 0, 0), (23, .iadd, 0, 0, 0), (24, .istore_n 1, 0, 0, 0), (25, .iinc 2 1, 0, 0, 0), (28, .goto (-24), 4, 0, 0), (31, .iload_n 1, 0, 0, 0), (32, .ireturn, 0, 0, 0)]
/-- StackPolicyKernel$Server.figure(I)I -/
def pg_t28 : List (Nat × mm_E) := [(0, .iload_n 1, 0, 0, 0), (1, .tableswitch 69 0 5 #[39, 44, 49, 54, 59, 64], 0, 39, 0), (40, .aload_n 0, 0, 0, 0), (41, .getfield 31, 1, 6, 62), (44, .ireturn, 0, 0, 0), (45, .aload_n 0, 0, 0, 0), (46, .getfield 28, 1, 5, 61), (49, .ireturn, 0, 0, 0), (50, .aload_n 0, 0, 0, 0), (51, .getfield 19, 1, 2, 55), (54, .ireturn, 0, 0, 0), (55, .aload_n 0, 0, 0, 0), (56, .invokevirtual 44, 27, 1, 405), (59, .ireturn, 0, 0, 0), (60, .aload_n 0, 0, 0, 0), (61, .getfield 34, 1, 7, 64), (64, .ireturn, 0, 0, 0), (65, .aload_n 0, 0, 0, 0), (66, .getfield 37, 1, 8, 65), (69, .ireturn, 0, 0, 0), (70, .iconst (-1), 0, 0, 0), (71, .ireturn, 0, 0, 0)]
/-- StackPolicyKernel$Trace.<init>()V -/
def pg_t29 : List (Nat × mm_E) := [(0, .aload_n 0, 0, 0, 0), (1, .invokespecial 3, 998, 0, 81), (4, .aload_n 0, 0, 0, 0), (5, .bipush 64, 0, 0, 0), (7, .newarray .int, 0, 0, 0), (9, .putfield 9, 2, 0, 82), (12, .aload_n 0, 0, 0, 0), (13, .iconst 0, 0, 0, 0), (14, .putfield 15, 2, 1, 83), (17, .aload_n 0, 0, 0, 0), (18, .iconst 0, 0, 0, 0), (19, .putfield 19, 2, 2, 85), (22, .aload_n 0, 0, 0, 0), (23, .iconst 0, 0, 0, 0), (24, .putfield 22, 2, 3, 87), (27, .return_, 0, 0, 0)]
/-- StackPolicyKernel$Trace.note(I)V -/
def pg_t30 : List (Nat × mm_E) := [(0, .iload_n 1, 0, 0, 0), (1, .ifCond .ne 13, 14, 0, 0), (4, .aload_n 0, 0, 0, 0), (5, .dup, 0, 0, 0), (6, .getfield 19, 2, 2, 85), (9, .iconst 1, 0, 0, 0), (10, .iadd, 0, 0, 0), (11, .putfield 19, 2, 2, 85), (14, .aload_n 0, 0, 0, 0), (15, .getfield 15, 2, 1, 83), (18, .ifCond .le 22, 40, 0, 0), (21, .iload_n 1, 0, 0, 0), (22, .aload_n 0, 0, 0, 0), (23, .iconst 0, 0, 0, 0), (24, .invokevirtual 25, 31, 2, 346), (27, .if_icmp .eq 13, 40, 0, 0), (30, .aload_n 0, 0, 0, 0), (31, .dup, 0, 0, 0), (32, .getfield 22, 2, 3, 87), (35, .iconst 1, 0, 0, 0), (36, .iadd, 0, 0, 0), (37, .putfield 22, 2, 3, 87), (40, .aload_n 0, 0, 0, 0), (41, .getfield 9, 2, 0, 82), (44, .aload_n 0, 0, 0, 0), (45, .getfield 15, 2, 1, 83), (48, .bipush 63, 0, 0, 0), (50, .iand, 0, 0, 0), (51, .iload_n 1, 0, 0, 0), (52, .iastore, 0, 0, 0), (53, .aload_n 0, 0, 0, 0), (54, .dup, 0, 0, 0), (55, .getfield 15, 2, 1, 83), (58, .iconst 1, 0, 0, 0), (59, .iadd, 0, 0, 0), (60, .putfield 15, 2, 1, 83), (63, .return_, 0, 0, 0)]
/-- StackPolicyKernel$Trace.codeBack(I)I -/
def pg_t31 : List (Nat × mm_E) := [(0, .iload_n 1, 0, 0, 0), (1, .ifCond .lt 17, 18, 0, 0), (4, .iload_n 1, 0, 0, 0), (5, .bipush 64, 0, 0, 0), (7, .if_icmp .ge 11, 18, 0, 0), (10, .iload_n 1, 0, 0, 0), (11, .aload_n 0, 0, 0, 0), (12, .getfield 15, 2, 1, 83), (15, .if_icmp .lt 5, 20, 0, 0), (18, .iconst (-1), 0, 0, 0), (19, .ireturn, 0, 0, 0), (20, .aload_n 0, 0, 0, 0), (21, .getfield 9, 2, 0, 82), (24, .aload_n 0, 0, 0, 0), (25, .getfield 15, 2, 1, 83), (28, .iconst 1, 0, 0, 0), (29, .isub, 0, 0, 0), (30, .iload_n 1, 0, 0, 0), (31, .isub, 0, 0, 0), (32, .bipush 63, 0, 0, 0), (34, .iand, 0, 0, 0), (35, .iaload, 0, 0, 0), (36, .ireturn, 0, 0, 0)]
/-- StackPolicyKernel.<init>()V -/
def pg_t32 : List (Nat × mm_E) := [(0, .aload_n 0, 0, 0, 0), (1, .invokespecial 1, 998, 0, 44), (4, .aload_n 0, 0, 0, 0), (5, .bipush 6, 0, 0, 0), (7, .anewarray 9, 102, 0, 47), (10, .putfield 11, 0, 0, 93), (13, .aload_n 0, 0, 0, 0), (14, .iconst 4, 0, 0, 0), (15, .newarray .int, 0, 0, 0), (17, .putfield 15, 0, 1, 94), (20, .aload_n 0, 0, 0, 0), (21, .new 19, 1, 0, 48), (24, .dup, 0, 0, 0), (25, .invokespecial 21, 21, 1, 0), (28, .putfield 22, 0, 2, 95), (31, .aload_n 0, 0, 0, 0), (32, .new 26, 2, 0, 77), (35, .dup, 0, 0, 0), (36, .invokespecial 28, 29, 1, 1), (39, .putfield 29, 0, 3, 96), (42, .aload_n 0, 0, 0, 0), (43, .iconst 0, 0, 0, 0), (44, .putfield 33, 0, 4, 97), (47, .aload_n 0, 0, 0, 0), (48, .iconst 0, 0, 0, 0), (49, .putfield 37, 0, 5, 98), (52, .aload_n 0, 0, 0, 0), (53, .iconst 0, 0, 0, 0), (54, .putfield 41, 0, 6, 99), (57, .aload_n 0, 0, 0, 0), (58, .iconst 0, 0, 0, 0), (59, .putfield 44, 0, 7, 100), (62, .return_, 0, 0, 0)]
/-- StackPolicyKernel.task(III)I -/
def pg_t33 : List (Nat × mm_E) := [(0, .iconst 1, 0, 0, 0), (1, .iload_n 3, 0, 0, 0), (2, .if_icmp .gt 23, 25, 0, 0), (5, .iload_n 3, 0, 0, 0), (6, .iload_n 2, 0, 0, 0), (7, .if_icmp .gt 18, 25, 0, 0), (10, .iload_n 2, 0, 0, 0), (11, .iload_n 1, 0, 0, 0), (12, .if_icmp .gt 13, 25, 0, 0), (15, .iload_n 1, 0, 0, 0), (16, .bipush 100, 0, 0, 0), (18, .if_icmp .gt 7, 25, 0, 0), (21, .iconst 1, 0, 0, 0), (22, .goto 4, 26, 0, 0), (25, .iconst 0, 0, 0, 0), (26, .istore 4, 0, 0, 0), (28, .aload_n 0, 0, 0, 0), (29, .getfield 37, 0, 5, 98), (32, .ifCond .ne 17, 49, 0, 0), (35, .aload_n 0, 0, 0, 0), (36, .getfield 33, 0, 4, 97), (39, .bipush 6, 0, 0, 0), (41, .if_icmp .eq 8, 49, 0, 0), (44, .iload 4, 0, 0, 0), (46, .ifCond .ne 5, 51, 0, 0), (49, .iconst (-1), 0, 0, 0), (50, .ireturn, 0, 0, 0), (51, .aload_n 0, 0, 0, 0), (52, .getfield 11, 0, 0, 93), (55, .aload_n 0, 0, 0, 0), (56, .getfield 33, 0, 4, 97), (59, .new 9, 3, 0, 47), (62, .dup, 0, 0, 0), (63, .iload_n 1, 0, 0, 0), (64, .iload_n 2, 0, 0, 0), (65, .iload_n 3, 0, 0, 0), (66, .invokespecial 47, 10, 4, 114), (69, .aastore, 102, 3, 0), (70, .aload_n 0, 0, 0, 0), (71, .dup, 0, 0, 0), (72, .getfield 33, 0, 4, 97), (75, .iconst 1, 0, 0, 0), (76, .iadd, 0, 0, 0), (77, .putfield 33, 0, 4, 97), (80, .aload_n 0, 0, 0, 0), (81, .getfield 33, 0, 4, 97), (84, .iconst 1, 0, 0, 0), (85, .isub, 0, 0, 0), (86, .ireturn, 0, 0, 0)]
/-- StackPolicyKernel.section(IIII)Z -/
def pg_t34 : List (Nat × mm_E) := [(0, .aload_n 0, 0, 0, 0), (1, .getfield 37, 0, 5, 98), (4, .ifCond .ne 18, 22, 0, 0), (7, .aload_n 0, 0, 0, 0), (8, .iload_n 1, 0, 0, 0), (9, .invokevirtual 50, 52, 2, 172), (12, .ifCond .eq 10, 22, 0, 0), (15, .iload_n 2, 0, 0, 0), (16, .invokestatic 54, 53, 1, 175), (19, .ifCond .ne 5, 24, 0, 0), (22, .iconst 0, 0, 0, 0), (23, .ireturn, 0, 0, 0), (24, .aload_n 0, 0, 0, 0), (25, .getfield 11, 0, 0, 93), (28, .iload_n 1, 0, 0, 0), (29, .aaload, 0, 0, 0), (30, .astore 5, 0, 0, 0), (32, .iload_n 3, 0, 0, 0), (33, .ifCond .lt 31, 64, 0, 0), (36, .iload_n 3, 0, 0, 0), (37, .iload 4, 0, 0, 0), (39, .if_icmp .ge 25, 64, 0, 0), (42, .iload 4, 0, 0, 0), (44, .aload 5, 0, 0, 0), (46, .getfield 57, 3, 2, 146), (49, .if_icmp .gt 15, 64, 0, 0), (52, .aload 5, 0, 0, 0), (54, .iload_n 2, 0, 0, 0), (55, .iload_n 3, 0, 0, 0), (56, .iload 4, 0, 0, 0), (58, .invokevirtual 60, 12, 4, 178), (61, .ifCond .ne 5, 66, 0, 0), (64, .iconst 0, 0, 0, 0), (65, .ireturn, 0, 0, 0), (66, .aload 5, 0, 0, 0), (68, .iload_n 2, 0, 0, 0), (69, .iload_n 3, 0, 0, 0), (70, .iload 4, 0, 0, 0), (72, .invokevirtual 64, 13, 4, 186), (75, .aload_n 0, 0, 0, 0), (76, .getfield 15, 0, 1, 94), (79, .iload_n 2, 0, 0, 0), (80, .aload_n 0, 0, 0, 0), (81, .getfield 15, 0, 1, 94), (84, .iload_n 2, 0, 0, 0), (85, .iaload, 0, 0, 0), (86, .aload 5, 0, 0, 0), (88, .invokevirtual 67, 11, 1, 204), (91, .invokestatic 71, 999, 0, 208), (94, .iastore, 0, 0, 0), (95, .iconst 1, 0, 0, 0), (96, .ireturn, 0, 0, 0)]
/-- StackPolicyKernel.server(II)Z -/
def pg_t35 : List (Nat × mm_E) := [(0, .aload_n 0, 0, 0, 0), (1, .getfield 37, 0, 5, 98), (4, .ifCond .ne 19, 23, 0, 0), (7, .iload_n 1, 0, 0, 0), (8, .iconst 1, 0, 0, 0), (9, .if_icmp .lt 14, 23, 0, 0), (12, .iload_n 1, 0, 0, 0), (13, .iload_n 2, 0, 0, 0), (14, .if_icmp .gt 9, 23, 0, 0), (17, .iload_n 2, 0, 0, 0), (18, .bipush 100, 0, 0, 0), (20, .if_icmp .le 5, 25, 0, 0), (23, .iconst 0, 0, 0, 0), (24, .ireturn, 0, 0, 0), (25, .aload_n 0, 0, 0, 0), (26, .getfield 22, 0, 2, 95), (29, .iload_n 1, 0, 0, 0), (30, .iload_n 2, 0, 0, 0), (31, .invokevirtual 77, 23, 3, 215), (34, .iconst 1, 0, 0, 0), (35, .ireturn, 0, 0, 0)]
/-- StackPolicyKernel.start()Z -/
def pg_t36 : List (Nat × mm_E) := [(0, .aload_n 0, 0, 0, 0), (1, .getfield 37, 0, 5, 98), (4, .ifCond .eq 5, 9, 0, 0), (7, .iconst 0, 0, 0, 0), (8, .ireturn, 0, 0, 0), (9, .aload_n 0, 0, 0, 0), (10, .iconst 1, 0, 0, 0), (11, .putfield 37, 0, 5, 98), (14, .iconst 1, 0, 0, 0), (15, .ireturn, 0, 0, 0)]
/-- StackPolicyKernel.verdict()I -/
def pg_t37 : List (Nat × mm_E) := [(0, .iconst 0, 0, 0, 0), (1, .istore_n 1, 0, 0, 0), (2, .iload_n 1, 0, 0, 0), (3, .aload_n 0, 0, 0, 0), (4, .getfield 33, 0, 4, 97), (7, .if_icmp .ge 24, 31, 0, 0), (10, .aload_n 0, 0, 0, 0), (11, .aload_n 0, 0, 0, 0), (12, .getfield 11, 0, 0, 93), (15, .iload_n 1, 0, 0, 0), (16, .aaload, 0, 0, 0), (17, .invokevirtual 81, 55, 2, 227), (20, .ifCond .ne 5, 25, 0, 0), (23, .iload_n 1, 0, 0, 0), (24, .ireturn, 0, 0, 0), (25, .iinc 1 1, 0, 0, 0), (28, .goto (-26), 2, 0, 0), (31, .iconst (-1), 0, 0, 0), (32, .ireturn, 0, 0, 0)]
/-- StackPolicyKernel.ceiling(I)I -/
def pg_t38 : List (Nat × mm_E) := [(0, .iload_n 1, 0, 0, 0), (1, .invokestatic 54, 53, 1, 175), (4, .ifCond .eq 12, 16, 0, 0), (7, .aload_n 0, 0, 0, 0), (8, .getfield 15, 0, 1, 94), (11, .iload_n 1, 0, 0, 0), (12, .iaload, 0, 0, 0), (13, .goto 4, 17, 0, 0), (16, .iconst (-1), 0, 0, 0), (17, .ireturn, 0, 0, 0)]
/-- StackPolicyKernel.release(II)I -/
def pg_t39 : List (Nat × mm_E) := [(0, .aload_n 0, 0, 0, 0), (1, .getfield 37, 0, 5, 98), (4, .ifCond .ne 5, 9, 0, 0), (7, .iconst (-1), 0, 0, 0), (8, .ireturn, 0, 0, 0), (9, .aload_n 0, 0, 0, 0), (10, .iload_n 1, 0, 0, 0), (11, .invokevirtual 50, 52, 2, 172), (14, .ifCond .eq 21, 35, 0, 0), (17, .iload_n 2, 0, 0, 0), (18, .iconst 1, 0, 0, 0), (19, .if_icmp .lt 16, 35, 0, 0), (22, .iload_n 2, 0, 0, 0), (23, .aload_n 0, 0, 0, 0), (24, .getfield 11, 0, 0, 93), (27, .iload_n 1, 0, 0, 0), (28, .aaload, 0, 0, 0), (29, .getfield 57, 3, 2, 146), (32, .if_icmp .le 6, 38, 0, 0), (35, .bipush (-2), 0, 0, 0), (37, .ireturn, 0, 0, 0), (38, .aload_n 0, 0, 0, 0), (39, .getfield 11, 0, 0, 93), (42, .iload_n 1, 0, 0, 0), (43, .aaload, 0, 0, 0), (44, .astore_n 3, 0, 0, 0), (45, .aload_n 3, 0, 0, 0), (46, .getfield 85, 3, 4, 149), (49, .invokevirtual 89, 5, 1, 250), (52, .ifCond .eq 6, 58, 0, 0), (55, .bipush (-3), 0, 0, 0), (57, .ireturn, 0, 0, 0), (58, .aload_n 3, 0, 0, 0), (59, .getfield 85, 3, 4, 149), (62, .invokevirtual 95, 4, 1, 254), (65, .ifCond .eq 28, 93, 0, 0), (68, .aload_n 0, 0, 0, 0), (69, .getfield 29, 0, 3, 96), (72, .getfield 98, 2, 1, 84), (75, .aload_n 3, 0, 0, 0), (76, .getfield 85, 3, 4, 149), (79, .getfield 101, 5, 3, 129), (82, .isub, 0, 0, 0), (83, .aload_n 3, 0, 0, 0), (84, .getfield 104, 3, 0, 142), (87, .if_icmp .ge 6, 93, 0, 0), (90, .bipush (-4), 0, 0, 0), (92, .ireturn, 0, 0, 0), (93, .aload_n 3, 0, 0, 0), (94, .getfield 85, 3, 4, 149), (97, .iload_n 2, 0, 0, 0), (98, .aload_n 0, 0, 0, 0), (99, .getfield 29, 0, 3, 96), (102, .getfield 98, 2, 1, 84), (105, .aload_n 3, 0, 0, 0), (106, .getfield 107, 3, 1, 144), (109, .invokevirtual 110, 7, 4, 258), (112, .aload_n 0, 0, 0, 0), (113, .dup, 0, 0, 0), (114, .getfield 41, 0, 6, 99), (117, .iconst 1, 0, 0, 0), (118, .iadd, 0, 0, 0), (119, .putfield 41, 0, 6, 99), (122, .aload_n 0, 0, 0, 0), (123, .getfield 41, 0, 6, 99), (126, .ireturn, 0, 0, 0)]
/-- StackPolicyKernel.submit(I)Z -/
def pg_t40 : List (Nat × mm_E) := [(0, .aload_n 0, 0, 0, 0), (1, .getfield 37, 0, 5, 98), (4, .ifCond .eq 24, 28, 0, 0), (7, .aload_n 0, 0, 0, 0), (8, .getfield 22, 0, 2, 95), (11, .invokevirtual 113, 22, 1, 238), (14, .ifCond .eq 14, 28, 0, 0), (17, .iload_n 1, 0, 0, 0), (18, .iconst 1, 0, 0, 0), (19, .if_icmp .lt 9, 28, 0, 0), (22, .iload_n 1, 0, 0, 0), (23, .bipush 50, 0, 0, 0), (25, .if_icmp .le 5, 30, 0, 0), (28, .iconst 0, 0, 0, 0), (29, .ireturn, 0, 0, 0), (30, .aload_n 0, 0, 0, 0), (31, .getfield 22, 0, 2, 95), (34, .iload_n 1, 0, 0, 0), (35, .aload_n 0, 0, 0, 0), (36, .getfield 29, 0, 3, 96), (39, .getfield 98, 2, 1, 84), (42, .invokevirtual 116, 24, 3, 266), (45, .ireturn, 0, 0, 0)]
/-- StackPolicyKernel.step(I)I -/
def pg_t41 : List (Nat × mm_E) := [(0, .aload_n 0, 0, 0, 0), (1, .getfield 37, 0, 5, 98), (4, .ifCond .eq 14, 18, 0, 0), (7, .iload_n 1, 0, 0, 0), (8, .ifCond .lt 10, 18, 0, 0), (11, .iload_n 1, 0, 0, 0), (12, .sipush 200, 0, 0, 0), (15, .if_icmp .le 5, 20, 0, 0), (18, .iconst (-1), 0, 0, 0), (19, .ireturn, 0, 0, 0), (20, .aload_n 0, 0, 0, 0), (21, .getfield 44, 0, 7, 100), (24, .aload_n 0, 0, 0, 0), (25, .getfield 22, 0, 2, 95), (28, .getfield 120, 1, 8, 66), (31, .iadd, 0, 0, 0), (32, .istore_n 2, 0, 0, 0), (33, .iconst 0, 0, 0, 0), (34, .istore_n 3, 0, 0, 0), (35, .iload_n 3, 0, 0, 0), (36, .iload_n 1, 0, 0, 0), (37, .if_icmp .ge 13, 50, 0, 0), (40, .aload_n 0, 0, 0, 0), (41, .invokevirtual 123, 63, 1, 278), (44, .iinc 3 1, 0, 0, 0), (47, .goto (-12), 35, 0, 0), (50, .aload_n 0, 0, 0, 0), (51, .getfield 44, 0, 7, 100), (54, .aload_n 0, 0, 0, 0), (55, .getfield 22, 0, 2, 95), (58, .getfield 120, 1, 8, 66), (61, .iadd, 0, 0, 0), (62, .iload_n 2, 0, 0, 0), (63, .isub, 0, 0, 0), (64, .ireturn, 0, 0, 0)]
/-- StackPolicyKernel.time()I -/
def pg_t42 : List (Nat × mm_E) := [(0, .aload_n 0, 0, 0, 0), (1, .getfield 29, 0, 3, 96), (4, .getfield 98, 2, 1, 84), (7, .ireturn, 0, 0, 0)]
/-- StackPolicyKernel.ran(I)I -/
def pg_t43 : List (Nat × mm_E) := [(0, .aload_n 0, 0, 0, 0), (1, .getfield 29, 0, 3, 96), (4, .iload_n 1, 0, 0, 0), (5, .invokevirtual 126, 31, 2, 361), (8, .ireturn, 0, 0, 0)]
/-- StackPolicyKernel.queued(I)I -/
def pg_t44 : List (Nat × mm_E) := [(0, .iconst 1, 0, 0, 0), (1, .istore_n 2, 0, 0, 0), (2, .iload_n 2, 0, 0, 0), (3, .iconst 2, 0, 0, 0), (4, .aload_n 0, 0, 0, 0), (5, .getfield 33, 0, 4, 97), (8, .iadd, 0, 0, 0), (9, .if_icmp .ge 28, 37, 0, 0), (12, .aload_n 0, 0, 0, 0), (13, .iload_n 2, 0, 0, 0), (14, .invokevirtual 130, 57, 2, 284), (17, .ifCond .eq 14, 31, 0, 0), (20, .aload_n 0, 0, 0, 0), (21, .iload_n 2, 0, 0, 0), (22, .invokevirtual 133, 60, 2, 366), (25, .iload_n 1, 0, 0, 0), (26, .if_icmp .ne 5, 31, 0, 0), (29, .iload_n 2, 0, 0, 0), (30, .ireturn, 0, 0, 0), (31, .iinc 2 1, 0, 0, 0), (34, .goto (-32), 2, 0, 0), (37, .iconst 0, 0, 0, 0), (38, .ireturn, 0, 0, 0)]
/-- StackPolicyKernel.holder(I)I -/
def pg_t45 : List (Nat × mm_E) := [(0, .iconst 0, 0, 0, 0), (1, .istore_n 2, 0, 0, 0), (2, .iload_n 2, 0, 0, 0), (3, .aload_n 0, 0, 0, 0), (4, .getfield 33, 0, 4, 97), (7, .if_icmp .ge 24, 31, 0, 0), (10, .aload_n 0, 0, 0, 0), (11, .getfield 11, 0, 0, 93), (14, .iload_n 2, 0, 0, 0), (15, .aaload, 0, 0, 0), (16, .iload_n 1, 0, 0, 0), (17, .invokevirtual 136, 16, 2, 373), (20, .ifCond .eq 5, 25, 0, 0), (23, .iload_n 2, 0, 0, 0), (24, .ireturn, 0, 0, 0), (25, .iinc 2 1, 0, 0, 0), (28, .goto (-26), 2, 0, 0), (31, .iconst (-1), 0, 0, 0), (32, .ireturn, 0, 0, 0)]
/-- StackPolicyKernel.systemCeiling()I -/
def pg_t46 : List (Nat × mm_E) := [(0, .aload_n 0, 0, 0, 0), (1, .invokevirtual 139, 62, 1, 300), (4, .ireturn, 0, 0, 0)]
/-- StackPolicyKernel.job(II)I -/
def pg_t47 : List (Nat × mm_E) := [(0, .aload_n 0, 0, 0, 0), (1, .iload_n 1, 0, 0, 0), (2, .invokevirtual 50, 52, 2, 172), (5, .ifCond .eq 18, 23, 0, 0), (8, .aload_n 0, 0, 0, 0), (9, .getfield 11, 0, 0, 93), (12, .iload_n 1, 0, 0, 0), (13, .aaload, 0, 0, 0), (14, .getfield 85, 3, 4, 149), (17, .invokevirtual 95, 4, 1, 254), (20, .ifCond .ne 5, 25, 0, 0), (23, .iconst (-1), 0, 0, 0), (24, .ireturn, 0, 0, 0), (25, .aload_n 0, 0, 0, 0), (26, .getfield 11, 0, 0, 93), (29, .iload_n 1, 0, 0, 0), (30, .aaload, 0, 0, 0), (31, .getfield 85, 3, 4, 149), (34, .iload_n 2, 0, 0, 0), (35, .invokevirtual 142, 9, 2, 385), (38, .ireturn, 0, 0, 0)]
/-- StackPolicyKernel.misses(I)I -/
def pg_t48 : List (Nat × mm_E) := [(0, .aload_n 0, 0, 0, 0), (1, .iload_n 1, 0, 0, 0), (2, .invokevirtual 50, 52, 2, 172), (5, .ifCond .eq 15, 20, 0, 0), (8, .aload_n 0, 0, 0, 0), (9, .getfield 11, 0, 0, 93), (12, .iload_n 1, 0, 0, 0), (13, .aaload, 0, 0, 0), (14, .getfield 145, 3, 6, 152), (17, .goto 4, 21, 0, 0), (20, .iconst (-1), 0, 0, 0), (21, .ireturn, 0, 0, 0)]
/-- StackPolicyKernel.worst(I)I -/
def pg_t49 : List (Nat × mm_E) := [(0, .aload_n 0, 0, 0, 0), (1, .iload_n 1, 0, 0, 0), (2, .invokevirtual 50, 52, 2, 172), (5, .ifCond .eq 15, 20, 0, 0), (8, .aload_n 0, 0, 0, 0), (9, .getfield 11, 0, 0, 93), (12, .iload_n 1, 0, 0, 0), (13, .aaload, 0, 0, 0), (14, .getfield 148, 3, 7, 154), (17, .goto 4, 21, 0, 0), (20, .iconst (-1), 0, 0, 0), (21, .ireturn, 0, 0, 0)]
/-- StackPolicyKernel.serverFigure(I)I -/
def pg_t50 : List (Nat × mm_E) := [(0, .aload_n 0, 0, 0, 0), (1, .getfield 22, 0, 2, 95), (4, .invokevirtual 113, 22, 1, 238), (7, .ifCond .eq 14, 21, 0, 0), (10, .aload_n 0, 0, 0, 0), (11, .getfield 22, 0, 2, 95), (14, .iload_n 1, 0, 0, 0), (15, .invokevirtual 151, 28, 2, 401), (18, .goto 4, 22, 0, 0), (21, .iconst (-1), 0, 0, 0), (22, .ireturn, 0, 0, 0)]
/-- StackPolicyKernel.count(I)I -/
def pg_t51 : List (Nat × mm_E) := [(0, .iload_n 1, 0, 0, 0), (1, .tableswitch 57 0 3 #[31, 39, 47, 52], 0, 31, 0), (32, .aload_n 0, 0, 0, 0), (33, .getfield 29, 0, 3, 96), (36, .getfield 152, 2, 2, 86), (39, .ireturn, 0, 0, 0), (40, .aload_n 0, 0, 0, 0), (41, .getfield 29, 0, 3, 96), (44, .getfield 155, 2, 3, 88), (47, .ireturn, 0, 0, 0), (48, .aload_n 0, 0, 0, 0), (49, .getfield 44, 0, 7, 100), (52, .ireturn, 0, 0, 0), (53, .aload_n 0, 0, 0, 0), (54, .invokevirtual 158, 54, 1, 413), (57, .ireturn, 0, 0, 0), (58, .iconst (-1), 0, 0, 0), (59, .ireturn, 0, 0, 0)]
/-- StackPolicyKernel.isTask(I)Z -/
def pg_t52 : List (Nat × mm_E) := [(0, .iconst 0, 0, 0, 0), (1, .iload_n 1, 0, 0, 0), (2, .if_icmp .gt 15, 17, 0, 0), (5, .iload_n 1, 0, 0, 0), (6, .aload_n 0, 0, 0, 0), (7, .getfield 33, 0, 4, 97), (10, .if_icmp .ge 7, 17, 0, 0), (13, .iconst 1, 0, 0, 0), (14, .goto 4, 18, 0, 0), (17, .iconst 0, 0, 0, 0), (18, .ireturn, 0, 0, 0)]
/-- StackPolicyKernel.isResource(I)Z -/
def pg_t53 : List (Nat × mm_E) := [(0, .iconst 0, 0, 0, 0), (1, .iload_n 0, 0, 0, 0), (2, .if_icmp .gt 12, 14, 0, 0), (5, .iload_n 0, 0, 0, 0), (6, .iconst 4, 0, 0, 0), (7, .if_icmp .ge 7, 14, 0, 0), (10, .iconst 1, 0, 0, 0), (11, .goto 4, 15, 0, 0), (14, .iconst 0, 0, 0, 0), (15, .ireturn, 0, 0, 0)]
/-- StackPolicyKernel.begunPendingJobs()I -/
def pg_t54 : List (Nat × mm_E) := [(0, .iconst 0, 0, 0, 0), (1, .istore_n 1, 0, 0, 0), (2, .iconst 0, 0, 0, 0), (3, .istore_n 2, 0, 0, 0), (4, .iload_n 2, 0, 0, 0), (5, .aload_n 0, 0, 0, 0), (6, .getfield 33, 0, 4, 97), (9, .if_icmp .ge 42, 51, 0, 0), (12, .aload_n 0, 0, 0, 0), (13, .getfield 11, 0, 0, 93), (16, .iload_n 2, 0, 0, 0), (17, .aaload, 0, 0, 0), (18, .getfield 85, 3, 4, 149), (21, .invokevirtual 89, 5, 1, 250), (24, .ifCond .eq 21, 45, 0, 0), (27, .aload_n 0, 0, 0, 0), (28, .getfield 11, 0, 0, 93), (31, .iload_n 2, 0, 0, 0), (32, .aaload, 0, 0, 0), (33, .getfield 85, 3, 4, 149), (36, .invokevirtual 161, 6, 1, 296), (39, .ifCond .eq 6, 45, 0, 0), (42, .iinc 1 1, 0, 0, 0), (45, .iinc 2 1, 0, 0, 0), (48, .goto (-44), 4, 0, 0), (51, .iload_n 1, 0, 0, 0), (52, .ireturn, 0, 0, 0)]
/-- StackPolicyKernel.passes(LStackPolicyKernel$Task;)Z -/
def pg_t55 : List (Nat × mm_E) := [(0, .aload_n 0, 0, 0, 0), (1, .aload_n 1, 0, 0, 0), (2, .invokevirtual 164, 56, 2, 230), (5, .i2l, 0, 0, 0), (6, .lstore_n 2, 0, 0, 0), (7, .aload_n 1, 0, 0, 0), (8, .getfield 107, 3, 1, 144), (11, .i2l, 0, 0, 0), (12, .lstore 4, 0, 0, 0), (14, .iconst 0, 0, 0, 0), (15, .istore 6, 0, 0, 0), (17, .iload 6, 0, 0, 0), (19, .aload_n 0, 0, 0, 0), (20, .getfield 33, 0, 4, 97), (23, .if_icmp .ge 71, 94, 0, 0), (26, .aload_n 0, 0, 0, 0), (27, .getfield 11, 0, 0, 93), (30, .iload 6, 0, 0, 0), (32, .aaload, 0, 0, 0), (33, .getfield 107, 3, 1, 144), (36, .aload_n 1, 0, 0, 0), (37, .getfield 107, 3, 1, 144), (40, .if_icmp .gt 48, 88, 0, 0), (43, .lload_n 2, 0, 0, 0), (44, .aload_n 0, 0, 0, 0), (45, .getfield 11, 0, 0, 93), (48, .iload 6, 0, 0, 0), (50, .aaload, 0, 0, 0), (51, .getfield 107, 3, 1, 144), (54, .i2l, 0, 0, 0), (55, .lmul, 0, 0, 0), (56, .aload_n 0, 0, 0, 0), (57, .getfield 11, 0, 0, 93), (60, .iload 6, 0, 0, 0), (62, .aaload, 0, 0, 0), (63, .getfield 57, 3, 2, 146), (66, .i2l, 0, 0, 0), (67, .lload 4, 0, 0, 0), (69, .lmul, 0, 0, 0), (70, .ladd, 0, 0, 0), (71, .lstore_n 2, 0, 0, 0), (72, .lload 4, 0, 0, 0), (74, .aload_n 0, 0, 0, 0), (75, .getfield 11, 0, 0, 93), (78, .iload 6, 0, 0, 0), (80, .aaload, 0, 0, 0), (81, .getfield 107, 3, 1, 144), (84, .i2l, 0, 0, 0), (85, .lmul, 0, 0, 0), (86, .lstore 4, 0, 0, 0), (88, .iinc 6 1, 0, 0, 0), (91, .goto (-74), 17, 0, 0), (94, .aload_n 0, 0, 0, 0), (95, .getfield 22, 0, 2, 95), (98, .invokevirtual 113, 22, 1, 238), (101, .ifCond .eq 39, 140, 0, 0), (104, .lload_n 2, 0, 0, 0), (105, .aload_n 0, 0, 0, 0), (106, .getfield 22, 0, 2, 95), (109, .getfield 168, 1, 4, 60), (112, .i2l, 0, 0, 0), (113, .lmul, 0, 0, 0), (114, .aload_n 0, 0, 0, 0), (115, .getfield 22, 0, 2, 95), (118, .getfield 169, 1, 3, 58), (121, .i2l, 0, 0, 0), (122, .lload 4, 0, 0, 0), (124, .lmul, 0, 0, 0), (125, .ladd, 0, 0, 0), (126, .lstore_n 2, 0, 0, 0), (127, .lload 4, 0, 0, 0), (129, .aload_n 0, 0, 0, 0), (130, .getfield 22, 0, 2, 95), (133, .getfield 168, 1, 4, 60), (136, .i2l, 0, 0, 0), (137, .lmul, 0, 0, 0), (138, .lstore 4, 0, 0, 0), (140, .lload_n 2, 0, 0, 0), (141, .lload 4, 0, 0, 0), (143, .lcmp, 0, 0, 0), (144, .ifCond .gt 7, 151, 0, 0), (147, .iconst 1, 0, 0, 0), (148, .goto 4, 152, 0, 0), (151, .iconst 0, 0, 0, 0), (152, .ireturn, 0, 0, 0)]
/-- StackPolicyKernel.longestHoldAgainst(LStackPolicyKernel$Task;)I -/
def pg_t56 : List (Nat × mm_E) := [(0, .iconst 0, 0, 0, 0), (1, .istore_n 2, 0, 0, 0), (2, .iconst 0, 0, 0, 0), (3, .istore_n 3, 0, 0, 0), (4, .iload_n 3, 0, 0, 0), (5, .aload_n 0, 0, 0, 0), (6, .getfield 33, 0, 4, 97), (9, .if_icmp .ge 47, 56, 0, 0), (12, .aload_n 0, 0, 0, 0), (13, .getfield 11, 0, 0, 93), (16, .iload_n 3, 0, 0, 0), (17, .aaload, 0, 0, 0), (18, .getfield 107, 3, 1, 144), (21, .aload_n 1, 0, 0, 0), (22, .getfield 107, 3, 1, 144), (25, .if_icmp .le 25, 50, 0, 0), (28, .iload_n 2, 0, 0, 0), (29, .aload_n 0, 0, 0, 0), (30, .getfield 11, 0, 0, 93), (33, .iload_n 3, 0, 0, 0), (34, .aaload, 0, 0, 0), (35, .aload_n 0, 0, 0, 0), (36, .getfield 15, 0, 1, 94), (39, .aload_n 1, 0, 0, 0), (40, .invokevirtual 67, 11, 1, 204), (43, .invokevirtual 172, 14, 3, 233), (46, .invokestatic 71, 999, 0, 208), (49, .istore_n 2, 0, 0, 0), (50, .iinc 3 1, 0, 0, 0), (53, .goto (-49), 4, 0, 0), (56, .iload_n 2, 0, 0, 0), (57, .ireturn, 0, 0, 0)]
/-- StackPolicyKernel.isInOrder(I)Z -/
def pg_t57 : List (Nat × mm_E) := [(0, .iload_n 1, 0, 0, 0), (1, .iconst 1, 0, 0, 0), (2, .if_icmp .ne 19, 21, 0, 0), (5, .aload_n 0, 0, 0, 0), (6, .getfield 22, 0, 2, 95), (9, .getfield 176, 1, 2, 56), (12, .ifCond .le 7, 19, 0, 0), (15, .iconst 1, 0, 0, 0), (16, .goto 4, 20, 0, 0), (19, .iconst 0, 0, 0, 0), (20, .ireturn, 0, 0, 0), (21, .aload_n 0, 0, 0, 0), (22, .getfield 11, 0, 0, 93), (25, .iload_n 1, 0, 0, 0), (26, .iconst 2, 0, 0, 0), (27, .isub, 0, 0, 0), (28, .aaload, 0, 0, 0), (29, .getfield 85, 3, 4, 149), (32, .invokevirtual 89, 5, 1, 250), (35, .ireturn, 0, 0, 0)]
/-- StackPolicyKernel.deadlineOf(I)I -/
def pg_t58 : List (Nat × mm_E) := [(0, .iload_n 1, 0, 0, 0), (1, .iconst 1, 0, 0, 0), (2, .if_icmp .ne 11, 13, 0, 0), (5, .aload_n 0, 0, 0, 0), (6, .getfield 22, 0, 2, 95), (9, .getfield 179, 1, 6, 63), (12, .ireturn, 0, 0, 0), (13, .aload_n 0, 0, 0, 0), (14, .getfield 11, 0, 0, 93), (17, .iload_n 1, 0, 0, 0), (18, .iconst 2, 0, 0, 0), (19, .isub, 0, 0, 0), (20, .aaload, 0, 0, 0), (21, .getfield 85, 3, 4, 149), (24, .getfield 182, 5, 4, 131), (27, .ireturn, 0, 0, 0)]
/-- StackPolicyKernel.comesBefore(II)Z -/
def pg_t59 : List (Nat × mm_E) := [(0, .aload_n 0, 0, 0, 0), (1, .iload_n 1, 0, 0, 0), (2, .invokevirtual 183, 58, 2, 290), (5, .istore_n 3, 0, 0, 0), (6, .aload_n 0, 0, 0, 0), (7, .iload_n 2, 0, 0, 0), (8, .invokevirtual 183, 58, 2, 290), (11, .istore 4, 0, 0, 0), (13, .iload_n 3, 0, 0, 0), (14, .iload 4, 0, 0, 0), (16, .if_icmp .eq 15, 31, 0, 0), (19, .iload_n 3, 0, 0, 0), (20, .iload 4, 0, 0, 0), (22, .if_icmp .ge 7, 29, 0, 0), (25, .iconst 1, 0, 0, 0), (26, .goto 4, 30, 0, 0), (29, .iconst 0, 0, 0, 0), (30, .ireturn, 0, 0, 0), (31, .iload_n 1, 0, 0, 0), (32, .iconst 1, 0, 0, 0), (33, .if_icmp .eq 17, 50, 0, 0), (36, .iload_n 2, 0, 0, 0), (37, .iconst 1, 0, 0, 0), (38, .if_icmp .eq 8, 46, 0, 0), (41, .iload_n 1, 0, 0, 0), (42, .iload_n 2, 0, 0, 0), (43, .if_icmp .ge 7, 50, 0, 0), (46, .iconst 1, 0, 0, 0), (47, .goto 4, 51, 0, 0), (50, .iconst 0, 0, 0, 0), (51, .ireturn, 0, 0, 0)]
/-- StackPolicyKernel.placeInOrder(I)I -/
def pg_t60 : List (Nat × mm_E) := [(0, .iconst 0, 0, 0, 0), (1, .istore_n 2, 0, 0, 0), (2, .iconst 1, 0, 0, 0), (3, .istore_n 3, 0, 0, 0), (4, .iload_n 3, 0, 0, 0), (5, .iconst 2, 0, 0, 0), (6, .aload_n 0, 0, 0, 0), (7, .getfield 33, 0, 4, 97), (10, .iadd, 0, 0, 0), (11, .if_icmp .ge 29, 40, 0, 0), (14, .aload_n 0, 0, 0, 0), (15, .iload_n 3, 0, 0, 0), (16, .invokevirtual 130, 57, 2, 284), (19, .ifCond .eq 15, 34, 0, 0), (22, .aload_n 0, 0, 0, 0), (23, .iload_n 3, 0, 0, 0), (24, .iload_n 1, 0, 0, 0), (25, .invokevirtual 186, 59, 3, 287), (28, .ifCond .eq 6, 34, 0, 0), (31, .iinc 2 1, 0, 0, 0), (34, .iinc 3 1, 0, 0, 0), (37, .goto (-33), 4, 0, 0), (40, .iload_n 2, 0, 0, 0), (41, .ireturn, 0, 0, 0)]
/-- StackPolicyKernel.firstInOrder()I -/
def pg_t61 : List (Nat × mm_E) := [(0, .iconst 0, 0, 0, 0), (1, .istore_n 1, 0, 0, 0), (2, .iconst 1, 0, 0, 0), (3, .istore_n 2, 0, 0, 0), (4, .iload_n 2, 0, 0, 0), (5, .iconst 2, 0, 0, 0), (6, .aload_n 0, 0, 0, 0), (7, .getfield 33, 0, 4, 97), (10, .iadd, 0, 0, 0), (11, .if_icmp .ge 32, 43, 0, 0), (14, .aload_n 0, 0, 0, 0), (15, .iload_n 2, 0, 0, 0), (16, .invokevirtual 130, 57, 2, 284), (19, .ifCond .eq 18, 37, 0, 0), (22, .iload_n 1, 0, 0, 0), (23, .ifCond .eq 12, 35, 0, 0), (26, .aload_n 0, 0, 0, 0), (27, .iload_n 2, 0, 0, 0), (28, .iload_n 1, 0, 0, 0), (29, .invokevirtual 186, 59, 3, 287), (32, .ifCond .eq 5, 37, 0, 0), (35, .iload_n 2, 0, 0, 0), (36, .istore_n 1, 0, 0, 0), (37, .iinc 2 1, 0, 0, 0), (40, .goto (-36), 4, 0, 0), (43, .iload_n 1, 0, 0, 0), (44, .ireturn, 0, 0, 0)]
/-- StackPolicyKernel.highestHeldCeiling()I -/
def pg_t62 : List (Nat × mm_E) := [(0, .iconst 0, 0, 0, 0), (1, .istore_n 1, 0, 0, 0), (2, .iconst 0, 0, 0, 0), (3, .istore_n 2, 0, 0, 0), (4, .iload_n 2, 0, 0, 0), (5, .aload_n 0, 0, 0, 0), (6, .getfield 33, 0, 4, 97), (9, .if_icmp .ge 27, 36, 0, 0), (12, .iload_n 1, 0, 0, 0), (13, .aload_n 0, 0, 0, 0), (14, .getfield 11, 0, 0, 93), (17, .iload_n 2, 0, 0, 0), (18, .aaload, 0, 0, 0), (19, .aload_n 0, 0, 0, 0), (20, .getfield 15, 0, 1, 94), (23, .invokevirtual 189, 18, 2, 303), (26, .invokestatic 71, 999, 0, 208), (29, .istore_n 1, 0, 0, 0), (30, .iinc 2 1, 0, 0, 0), (33, .goto (-29), 4, 0, 0), (36, .iload_n 1, 0, 0, 0), (37, .ireturn, 0, 0, 0)]
/-- StackPolicyKernel.makeTick()V -/
def pg_t63 : List (Nat × mm_E) := [(0, .aload_n 0, 0, 0, 0), (1, .invokevirtual 193, 61, 1, 281), (4, .istore_n 1, 0, 0, 0), (5, .aload_n 0, 0, 0, 0), (6, .iload_n 1, 0, 0, 0), (7, .invokevirtual 196, 64, 2, 293), (10, .istore_n 2, 0, 0, 0), (11, .iload_n 2, 0, 0, 0), (12, .iconst 1, 0, 0, 0), (13, .if_icmp .ne 13, 26, 0, 0), (16, .aload_n 0, 0, 0, 0), (17, .getfield 22, 0, 2, 95), (20, .invokevirtual 199, 26, 1, 316), (23, .goto 24, 47, 0, 0), (26, .iload_n 2, 0, 0, 0), (27, .ifCond .eq 20, 47, 0, 0), (30, .aload_n 0, 0, 0, 0), (31, .iload_n 2, 0, 0, 0), (32, .iconst 2, 0, 0, 0), (33, .isub, 0, 0, 0), (34, .invokevirtual 202, 65, 2, 320), (37, .iload_n 2, 0, 0, 0), (38, .iload_n 1, 0, 0, 0), (39, .if_icmp .eq 8, 47, 0, 0), (42, .aload_n 0, 0, 0, 0), (43, .iload_n 2, 0, 0, 0), (44, .invokevirtual 206, 66, 2, 335), (47, .aload_n 0, 0, 0, 0), (48, .getfield 29, 0, 3, 96), (51, .iload_n 2, 0, 0, 0), (52, .invokevirtual 209, 30, 2, 342), (55, .aload_n 0, 0, 0, 0), (56, .invokevirtual 212, 67, 1, 350), (59, .return_, 0, 0, 0)]
/-- StackPolicyKernel.chooseRunner(I)I -/
def pg_t64 : List (Nat × mm_E) := [(0, .iload_n 1, 0, 0, 0), (1, .ifCond .eq 8, 9, 0, 0), (4, .iload_n 1, 0, 0, 0), (5, .iconst 1, 0, 0, 0), (6, .if_icmp .ne 5, 11, 0, 0), (9, .iload_n 1, 0, 0, 0), (10, .ireturn, 0, 0, 0), (11, .aload_n 0, 0, 0, 0), (12, .getfield 11, 0, 0, 93), (15, .iload_n 1, 0, 0, 0), (16, .iconst 2, 0, 0, 0), (17, .isub, 0, 0, 0), (18, .aaload, 0, 0, 0), (19, .astore_n 2, 0, 0, 0), (20, .aload_n 2, 0, 0, 0), (21, .getfield 85, 3, 4, 149), (24, .invokevirtual 161, 6, 1, 296), (27, .ifCond .eq 5, 32, 0, 0), (30, .iload_n 1, 0, 0, 0), (31, .ireturn, 0, 0, 0), (32, .aload_n 0, 0, 0, 0), (33, .invokevirtual 139, 62, 1, 300), (36, .istore_n 3, 0, 0, 0), (37, .aload_n 2, 0, 0, 0), (38, .invokevirtual 67, 11, 1, 204), (41, .iload_n 3, 0, 0, 0), (42, .if_icmp .le 5, 47, 0, 0), (45, .iload_n 1, 0, 0, 0), (46, .ireturn, 0, 0, 0), (47, .iconst 0, 0, 0, 0), (48, .istore 4, 0, 0, 0), (50, .iload 4, 0, 0, 0), (52, .aload_n 0, 0, 0, 0), (53, .getfield 33, 0, 4, 97), (56, .if_icmp .ge 32, 88, 0, 0), (59, .aload_n 0, 0, 0, 0), (60, .getfield 11, 0, 0, 93), (63, .iload 4, 0, 0, 0), (65, .aaload, 0, 0, 0), (66, .aload_n 0, 0, 0, 0), (67, .getfield 15, 0, 1, 94), (70, .invokevirtual 189, 18, 2, 303), (73, .iload_n 3, 0, 0, 0), (74, .if_icmp .ne 8, 82, 0, 0), (77, .iconst 2, 0, 0, 0), (78, .iload 4, 0, 0, 0), (80, .iadd, 0, 0, 0), (81, .ireturn, 0, 0, 0), (82, .iinc 4 1, 0, 0, 0), (85, .goto (-35), 50, 0, 0), (88, .iload_n 1, 0, 0, 0), (89, .ireturn, 0, 0, 0)]
/-- StackPolicyKernel.runJob(I)V -/
def pg_t65 : List (Nat × mm_E) := [(0, .aload_n 0, 0, 0, 0), (1, .getfield 11, 0, 0, 93), (4, .iload_n 1, 0, 0, 0), (5, .aaload, 0, 0, 0), (6, .invokevirtual 215, 19, 1, 323), (9, .aload_n 0, 0, 0, 0), (10, .getfield 11, 0, 0, 93), (13, .iload_n 1, 0, 0, 0), (14, .aaload, 0, 0, 0), (15, .getfield 85, 3, 4, 149), (18, .invokevirtual 89, 5, 1, 250), (21, .ifCond .ne 44, 65, 0, 0), (24, .aload_n 0, 0, 0, 0), (25, .dup, 0, 0, 0), (26, .getfield 44, 0, 7, 100), (29, .iconst 1, 0, 0, 0), (30, .iadd, 0, 0, 0), (31, .putfield 44, 0, 7, 100), (34, .aload_n 0, 0, 0, 0), (35, .getfield 11, 0, 0, 93), (38, .iload_n 1, 0, 0, 0), (39, .aaload, 0, 0, 0), (40, .aload_n 0, 0, 0, 0), (41, .getfield 29, 0, 3, 96), (44, .getfield 98, 2, 1, 84), (47, .iconst 1, 0, 0, 0), (48, .iadd, 0, 0, 0), (49, .aload_n 0, 0, 0, 0), (50, .getfield 11, 0, 0, 93), (53, .iload_n 1, 0, 0, 0), (54, .aaload, 0, 0, 0), (55, .getfield 85, 3, 4, 149), (58, .getfield 101, 5, 3, 129), (61, .isub, 0, 0, 0), (62, .invokevirtual 216, 20, 2, 331), (65, .return_, 0, 0, 0)]
/-- StackPolicyKernel.noteBlocked(I)V -/
def pg_t66 : List (Nat × mm_E) := [(0, .iload_n 1, 0, 0, 0), (1, .iconst 2, 0, 0, 0), (2, .isub, 0, 0, 0), (3, .istore_n 2, 0, 0, 0), (4, .iconst 0, 0, 0, 0), (5, .istore_n 3, 0, 0, 0), (6, .iload_n 3, 0, 0, 0), (7, .aload_n 0, 0, 0, 0), (8, .getfield 33, 0, 4, 97), (11, .if_icmp .ge 57, 68, 0, 0), (14, .aload_n 0, 0, 0, 0), (15, .getfield 11, 0, 0, 93), (18, .iload_n 3, 0, 0, 0), (19, .aaload, 0, 0, 0), (20, .getfield 85, 3, 4, 149), (23, .invokevirtual 89, 5, 1, 250), (26, .ifCond .eq 36, 62, 0, 0), (29, .aload_n 0, 0, 0, 0), (30, .iconst 2, 0, 0, 0), (31, .iload_n 3, 0, 0, 0), (32, .iadd, 0, 0, 0), (33, .iload_n 1, 0, 0, 0), (34, .invokevirtual 186, 59, 3, 287), (37, .ifCond .eq 25, 62, 0, 0), (40, .aload_n 0, 0, 0, 0), (41, .getfield 11, 0, 0, 93), (44, .iload_n 3, 0, 0, 0), (45, .aaload, 0, 0, 0), (46, .getfield 85, 3, 4, 149), (49, .iload_n 2, 0, 0, 0), (50, .aload_n 0, 0, 0, 0), (51, .getfield 11, 0, 0, 93), (54, .iload_n 2, 0, 0, 0), (55, .aaload, 0, 0, 0), (56, .getfield 219, 3, 9, 157), (59, .invokevirtual 222, 8, 3, 338), (62, .iinc 3 1, 0, 0, 0), (65, .goto (-59), 6, 0, 0), (68, .return_, 0, 0, 0)]
/-- StackPolicyKernel.noteMisses()V -/
def pg_t67 : List (Nat × mm_E) := [(0, .iconst 0, 0, 0, 0), (1, .istore_n 1, 0, 0, 0), (2, .iload_n 1, 0, 0, 0), (3, .aload_n 0, 0, 0, 0), (4, .getfield 33, 0, 4, 97), (7, .if_icmp .ge 61, 68, 0, 0), (10, .aload_n 0, 0, 0, 0), (11, .getfield 11, 0, 0, 93), (14, .iload_n 1, 0, 0, 0), (15, .aaload, 0, 0, 0), (16, .getfield 85, 3, 4, 149), (19, .invokevirtual 89, 5, 1, 250), (22, .ifCond .eq 40, 62, 0, 0), (25, .aload_n 0, 0, 0, 0), (26, .getfield 11, 0, 0, 93), (29, .iload_n 1, 0, 0, 0), (30, .aaload, 0, 0, 0), (31, .getfield 85, 3, 4, 149), (34, .getfield 182, 5, 4, 131), (37, .aload_n 0, 0, 0, 0), (38, .getfield 29, 0, 3, 96), (41, .getfield 98, 2, 1, 84), (44, .if_icmp .ne 18, 62, 0, 0), (47, .aload_n 0, 0, 0, 0), (48, .getfield 11, 0, 0, 93), (51, .iload_n 1, 0, 0, 0), (52, .aaload, 0, 0, 0), (53, .dup, 0, 0, 0), (54, .getfield 145, 3, 6, 152), (57, .iconst 1, 0, 0, 0), (58, .iadd, 0, 0, 0), (59, .putfield 145, 3, 6, 152), (62, .iinc 1 1, 0, 0, 0), (65, .goto (-63), 2, 0, 0), (68, .return_, 0, 0, 0)]
/-- StackPolicyKernelModel.<init>()V -/
def pg_t68 : List (Nat × mm_E) := [(0, .aload_n 0, 0, 0, 0), (1, .invokespecial 1, 998, 0, 421), (4, .aload_n 0, 0, 0, 0), (5, .bipush 6, 0, 0, 0), (7, .newarray .int, 0, 0, 0), (9, .putfield 7, 6, 1, 423), (12, .aload_n 0, 0, 0, 0), (13, .bipush 6, 0, 0, 0), (15, .newarray .int, 0, 0, 0), (17, .putfield 13, 6, 2, 424), (20, .aload_n 0, 0, 0, 0), (21, .bipush 6, 0, 0, 0), (23, .newarray .int, 0, 0, 0), (25, .putfield 16, 6, 3, 425), (28, .aload_n 0, 0, 0, 0), (29, .bipush 6, 0, 0, 0), (31, .newarray .int, 0, 0, 0), (33, .putfield 19, 6, 4, 426), (36, .aload_n 0, 0, 0, 0), (37, .bipush 24, 0, 0, 0), (39, .newarray .int, 0, 0, 0), (41, .putfield 22, 6, 5, 427), (44, .aload_n 0, 0, 0, 0), (45, .bipush 24, 0, 0, 0), (47, .newarray .int, 0, 0, 0), (49, .putfield 25, 6, 6, 428), (52, .aload_n 0, 0, 0, 0), (53, .bipush 24, 0, 0, 0), (55, .newarray .int, 0, 0, 0), (57, .putfield 28, 6, 7, 429), (60, .aload_n 0, 0, 0, 0), (61, .bipush 8, 0, 0, 0), (63, .newarray .int, 0, 0, 0), (65, .putfield 31, 6, 15, 437), (68, .aload_n 0, 0, 0, 0), (69, .bipush 6, 0, 0, 0), (71, .newarray .int, 0, 0, 0), (73, .putfield 34, 6, 18, 440), (76, .aload_n 0, 0, 0, 0), (77, .bipush 6, 0, 0, 0), (79, .newarray .int, 0, 0, 0), (81, .putfield 37, 6, 19, 441), (84, .aload_n 0, 0, 0, 0), (85, .bipush 6, 0, 0, 0), (87, .newarray .int, 0, 0, 0), (89, .putfield 40, 6, 20, 442), (92, .aload_n 0, 0, 0, 0), (93, .bipush 6, 0, 0, 0), (95, .newarray .int, 0, 0, 0), (97, .putfield 43, 6, 21, 443), (100, .aload_n 0, 0, 0, 0), (101, .bipush 6, 0, 0, 0), (103, .newarray .int, 0, 0, 0), (105, .putfield 46, 6, 22, 444), (108, .aload_n 0, 0, 0, 0), (109, .bipush 6, 0, 0, 0), (111, .newarray .int, 0, 0, 0), (113, .putfield 49, 6, 23, 445), (116, .aload_n 0, 0, 0, 0), (117, .bipush 6, 0, 0, 0), (119, .newarray .int, 0, 0, 0), (121, .putfield 52, 6, 24, 446), (124, .aload_n 0, 0, 0, 0), (125, .sipush 360, 0, 0, 0), (128, .newarray .int, 0, 0, 0), (130, .putfield 55, 6, 25, 447), (133, .aload_n 0, 0, 0, 0), (134, .bipush 6, 0, 0, 0), (136, .newarray .int, 0, 0, 0), (138, .putfield 58, 6, 26, 448), (141, .aload_n 0, 0, 0, 0), (142, .bipush 6, 0, 0, 0), (144, .newarray .int, 0, 0, 0), (146, .putfield 61, 6, 27, 449), (149, .aload_n 0, 0, 0, 0), (150, .bipush 64, 0, 0, 0), (152, .newarray .int, 0, 0, 0), (154, .putfield 64, 6, 34, 456), (157, .return_, 0, 0, 0)]
/-- StackPolicyKernelModel.rising(IIII)Z -/
def pg_t69 : List (Nat × mm_E) := [(0, .iload_n 0, 0, 0, 0), (1, .iload_n 1, 0, 0, 0), (2, .if_icmp .gt 17, 19, 0, 0), (5, .iload_n 1, 0, 0, 0), (6, .iload_n 2, 0, 0, 0), (7, .if_icmp .gt 12, 19, 0, 0), (10, .iload_n 2, 0, 0, 0), (11, .iload_n 3, 0, 0, 0), (12, .if_icmp .gt 7, 19, 0, 0), (15, .iconst 1, 0, 0, 0), (16, .goto 4, 20, 0, 0), (19, .iconst 0, 0, 0, 0), (20, .ireturn, 0, 0, 0)]
/-- StackPolicyKernelModel.task(III)I -/
def pg_t70 : List (Nat × mm_E) := [(0, .aload_n 0, 0, 0, 0), (1, .getfield 67, 6, 8, 430), (4, .ifCond .ne 28, 32, 0, 0), (7, .aload_n 0, 0, 0, 0), (8, .getfield 71, 6, 0, 422), (11, .bipush 6, 0, 0, 0), (13, .if_icmp .eq 19, 32, 0, 0), (16, .iconst 1, 0, 0, 0), (17, .iload_n 3, 0, 0, 0), (18, .iload_n 2, 0, 0, 0), (19, .iload_n 1, 0, 0, 0), (20, .invokestatic 75, 69, 4, 496), (23, .ifCond .eq 9, 32, 0, 0), (26, .iload_n 1, 0, 0, 0), (27, .bipush 100, 0, 0, 0), (29, .if_icmp .le 5, 34, 0, 0), (32, .iconst (-1), 0, 0, 0), (33, .ireturn, 0, 0, 0), (34, .aload_n 0, 0, 0, 0), (35, .getfield 7, 6, 1, 423), (38, .aload_n 0, 0, 0, 0), (39, .getfield 71, 6, 0, 422), (42, .iload_n 1, 0, 0, 0), (43, .iastore, 0, 0, 0), (44, .aload_n 0, 0, 0, 0), (45, .getfield 13, 6, 2, 424), (48, .aload_n 0, 0, 0, 0), (49, .getfield 71, 6, 0, 422), (52, .iload_n 2, 0, 0, 0), (53, .iastore, 0, 0, 0), (54, .aload_n 0, 0, 0, 0), (55, .getfield 16, 6, 3, 425), (58, .aload_n 0, 0, 0, 0), (59, .getfield 71, 6, 0, 422), (62, .iload_n 3, 0, 0, 0), (63, .iastore, 0, 0, 0), (64, .aload_n 0, 0, 0, 0), (65, .dup, 0, 0, 0), (66, .getfield 71, 6, 0, 422), (69, .iconst 1, 0, 0, 0), (70, .iadd, 0, 0, 0), (71, .putfield 71, 6, 0, 422), (74, .aload_n 0, 0, 0, 0), (75, .getfield 71, 6, 0, 422), (78, .iconst 1, 0, 0, 0), (79, .isub, 0, 0, 0), (80, .ireturn, 0, 0, 0)]
/-- StackPolicyKernelModel.isTask(I)Z -/
def pg_t71 : List (Nat × mm_E) := [(0, .iload_n 1, 0, 0, 0), (1, .ifCond .lt 15, 16, 0, 0), (4, .iload_n 1, 0, 0, 0), (5, .aload_n 0, 0, 0, 0), (6, .getfield 71, 6, 0, 422), (9, .if_icmp .ge 7, 16, 0, 0), (12, .iconst 1, 0, 0, 0), (13, .goto 4, 17, 0, 0), (16, .iconst 0, 0, 0, 0), (17, .ireturn, 0, 0, 0)]
/-- StackPolicyKernelModel.section(IIII)Z -/
def pg_t72 : List (Nat × mm_E) := [(0, .aload_n 0, 0, 0, 0), (1, .getfield 67, 6, 8, 430), (4, .ifCond .ne 51, 55, 0, 0), (7, .aload_n 0, 0, 0, 0), (8, .iload_n 1, 0, 0, 0), (9, .invokevirtual 79, 71, 2, 503), (12, .ifCond .eq 43, 55, 0, 0), (15, .iload_n 2, 0, 0, 0), (16, .ifCond .lt 39, 55, 0, 0), (19, .iload_n 2, 0, 0, 0), (20, .iconst 3, 0, 0, 0), (21, .if_icmp .gt 34, 55, 0, 0), (24, .iload_n 3, 0, 0, 0), (25, .ifCond .lt 30, 55, 0, 0), (28, .iload_n 3, 0, 0, 0), (29, .iload 4, 0, 0, 0), (31, .if_icmp .ge 24, 55, 0, 0), (34, .iload 4, 0, 0, 0), (36, .aload_n 0, 0, 0, 0), (37, .getfield 16, 6, 3, 425), (40, .iload_n 1, 0, 0, 0), (41, .iaload, 0, 0, 0), (42, .if_icmp .gt 13, 55, 0, 0), (45, .aload_n 0, 0, 0, 0), (46, .getfield 19, 6, 4, 426), (49, .iload_n 1, 0, 0, 0), (50, .iaload, 0, 0, 0), (51, .iconst 4, 0, 0, 0), (52, .if_icmp .ne 5, 57, 0, 0), (55, .iconst 0, 0, 0, 0), (56, .ireturn, 0, 0, 0), (57, .iconst 4, 0, 0, 0), (58, .iload_n 1, 0, 0, 0), (59, .imul, 0, 0, 0), (60, .istore 5, 0, 0, 0), (62, .iload 5, 0, 0, 0), (64, .iconst 4, 0, 0, 0), (65, .iload_n 1, 0, 0, 0), (66, .imul, 0, 0, 0), (67, .aload_n 0, 0, 0, 0), (68, .getfield 19, 6, 4, 426), (71, .iload_n 1, 0, 0, 0), (72, .iaload, 0, 0, 0), (73, .iadd, 0, 0, 0), (74, .if_icmp .ge 115, 189, 0, 0), (77, .aload_n 0, 0, 0, 0), (78, .getfield 28, 6, 7, 429), (81, .iload 5, 0, 0, 0), (83, .iaload, 0, 0, 0), (84, .iload_n 3, 0, 0, 0), (85, .if_icmp .le 15, 100, 0, 0), (88, .iload 4, 0, 0, 0), (90, .aload_n 0, 0, 0, 0), (91, .getfield 25, 6, 6, 428), (94, .iload 5, 0, 0, 0), (96, .iaload, 0, 0, 0), (97, .if_icmp .gt 7, 104, 0, 0), (100, .iconst 1, 0, 0, 0), (101, .goto 4, 105, 0, 0), (104, .iconst 0, 0, 0, 0), (105, .istore 6, 0, 0, 0), (107, .aload_n 0, 0, 0, 0), (108, .getfield 25, 6, 6, 428), (111, .iload 5, 0, 0, 0), (113, .iaload, 0, 0, 0), (114, .iload_n 3, 0, 0, 0), (115, .iload 4, 0, 0, 0), (117, .aload_n 0, 0, 0, 0), (118, .getfield 28, 6, 7, 429), (121, .iload 5, 0, 0, 0), (123, .iaload, 0, 0, 0), (124, .invokestatic 75, 69, 4, 496), (127, .ifCond .ne 26, 153, 0, 0), (130, .iload_n 3, 0, 0, 0), (131, .aload_n 0, 0, 0, 0), (132, .getfield 25, 6, 6, 428), (135, .iload 5, 0, 0, 0), (137, .iaload, 0, 0, 0), (138, .aload_n 0, 0, 0, 0), (139, .getfield 28, 6, 7, 429), (142, .iload 5, 0, 0, 0), (144, .iaload, 0, 0, 0), (145, .iload 4, 0, 0, 0), (147, .invokestatic 75, 69, 4, 496), (150, .ifCond .eq 7, 157, 0, 0), (153, .iconst 1, 0, 0, 0), (154, .goto 4, 158, 0, 0), (157, .iconst 0, 0, 0, 0), (158, .istore 7, 0, 0, 0), (160, .iload 6, 0, 0, 0), (162, .ifCond .ne 21, 183, 0, 0), (165, .iload 7, 0, 0, 0), (167, .ifCond .eq 14, 181, 0, 0), (170, .aload_n 0, 0, 0, 0), (171, .getfield 22, 6, 5, 427), (174, .iload 5, 0, 0, 0), (176, .iaload, 0, 0, 0), (177, .iload_n 2, 0, 0, 0), (178, .if_icmp .ne 5, 183, 0, 0), (181, .iconst 0, 0, 0, 0), (182, .ireturn, 0, 0, 0), (183, .iinc 5 1, 0, 0, 0), (186, .goto (-124), 62, 0, 0), (189, .iconst 4, 0, 0, 0), (190, .iload_n 1, 0, 0, 0), (191, .imul, 0, 0, 0), (192, .aload_n 0, 0, 0, 0), (193, .getfield 19, 6, 4, 426), (196, .iload_n 1, 0, 0, 0), (197, .iaload, 0, 0, 0), (198, .iadd, 0, 0, 0), (199, .istore 5, 0, 0, 0), (201, .aload_n 0, 0, 0, 0), (202, .getfield 22, 6, 5, 427), (205, .iload 5, 0, 0, 0), (207, .iload_n 2, 0, 0, 0), (208, .iastore, 0, 0, 0), (209, .aload_n 0, 0, 0, 0), (210, .getfield 25, 6, 6, 428), (213, .iload 5, 0, 0, 0), (215, .iload_n 3, 0, 0, 0), (216, .iastore, 0, 0, 0), (217, .aload_n 0, 0, 0, 0), (218, .getfield 28, 6, 7, 429), (221, .iload 5, 0, 0, 0), (223, .iload 4, 0, 0, 0), (225, .iastore, 0, 0, 0), (226, .aload_n 0, 0, 0, 0), (227, .getfield 19, 6, 4, 426), (230, .iload_n 1, 0, 0, 0), (231, .dup2, 0, 0, 0), (232, .iaload, 0, 0, 0), (233, .iconst 1, 0, 0, 0), (234, .iadd, 0, 0, 0), (235, .iastore, 0, 0, 0), (236, .iconst 1, 0, 0, 0), (237, .ireturn, 0, 0, 0)]
/-- StackPolicyKernelModel.server(II)Z -/
def pg_t73 : List (Nat × mm_E) := [(0, .aload_n 0, 0, 0, 0), (1, .getfield 67, 6, 8, 430), (4, .ifCond .ne 19, 23, 0, 0), (7, .iload_n 1, 0, 0, 0), (8, .iconst 1, 0, 0, 0), (9, .if_icmp .lt 14, 23, 0, 0), (12, .iload_n 1, 0, 0, 0), (13, .iload_n 2, 0, 0, 0), (14, .if_icmp .gt 9, 23, 0, 0), (17, .iload_n 2, 0, 0, 0), (18, .bipush 100, 0, 0, 0), (20, .if_icmp .le 5, 25, 0, 0), (23, .iconst 0, 0, 0, 0), (24, .ireturn, 0, 0, 0), (25, .aload_n 0, 0, 0, 0), (26, .iload_n 1, 0, 0, 0), (27, .putfield 83, 6, 10, 432), (30, .aload_n 0, 0, 0, 0), (31, .iload_n 2, 0, 0, 0), (32, .putfield 86, 6, 11, 433), (35, .aload_n 0, 0, 0, 0), (36, .iload_n 1, 0, 0, 0), (37, .putfield 89, 6, 12, 434), (40, .iconst 1, 0, 0, 0), (41, .ireturn, 0, 0, 0)]
/-- StackPolicyKernelModel.start()Z -/
def pg_t74 : List (Nat × mm_E) := [(0, .aload_n 0, 0, 0, 0), (1, .getfield 67, 6, 8, 430), (4, .istore_n 1, 0, 0, 0), (5, .aload_n 0, 0, 0, 0), (6, .iconst 1, 0, 0, 0), (7, .putfield 67, 6, 8, 430), (10, .iload_n 1, 0, 0, 0), (11, .ifCond .ne 7, 18, 0, 0), (14, .iconst 1, 0, 0, 0), (15, .goto 4, 19, 0, 0), (18, .iconst 0, 0, 0, 0), (19, .ireturn, 0, 0, 0)]
/-- StackPolicyKernelModel.level(I)I -/
def pg_t75 : List (Nat × mm_E) := [(0, .bipush 101, 0, 0, 0), (2, .aload_n 0, 0, 0, 0), (3, .getfield 13, 6, 2, 424), (6, .iload_n 1, 0, 0, 0), (7, .iaload, 0, 0, 0), (8, .isub, 0, 0, 0), (9, .ireturn, 0, 0, 0)]
/-- StackPolicyKernelModel.ceiling(I)I -/
def pg_t76 : List (Nat × mm_E) := [(0, .iload_n 1, 0, 0, 0), (1, .ifCond .lt 8, 9, 0, 0), (4, .iload_n 1, 0, 0, 0), (5, .iconst 3, 0, 0, 0), (6, .if_icmp .le 5, 11, 0, 0), (9, .iconst (-1), 0, 0, 0), (10, .ireturn, 0, 0, 0), (11, .iconst 0, 0, 0, 0), (12, .istore_n 2, 0, 0, 0), (13, .iconst 0, 0, 0, 0), (14, .istore_n 3, 0, 0, 0), (15, .iload_n 3, 0, 0, 0), (16, .aload_n 0, 0, 0, 0), (17, .getfield 71, 6, 0, 422), (20, .if_icmp .ge 61, 81, 0, 0), (23, .iconst 4, 0, 0, 0), (24, .iload_n 3, 0, 0, 0), (25, .imul, 0, 0, 0), (26, .istore 4, 0, 0, 0), (28, .iload 4, 0, 0, 0), (30, .iconst 4, 0, 0, 0), (31, .iload_n 3, 0, 0, 0), (32, .imul, 0, 0, 0), (33, .aload_n 0, 0, 0, 0), (34, .getfield 19, 6, 4, 426), (37, .iload_n 3, 0, 0, 0), (38, .iaload, 0, 0, 0), (39, .iadd, 0, 0, 0), (40, .if_icmp .ge 35, 75, 0, 0), (43, .aload_n 0, 0, 0, 0), (44, .getfield 22, 6, 5, 427), (47, .iload 4, 0, 0, 0), (49, .iaload, 0, 0, 0), (50, .iload_n 1, 0, 0, 0), (51, .if_icmp .ne 18, 69, 0, 0), (54, .aload_n 0, 0, 0, 0), (55, .iload_n 3, 0, 0, 0), (56, .invokevirtual 92, 75, 2, 518), (59, .iload_n 2, 0, 0, 0), (60, .if_icmp .le 9, 69, 0, 0), (63, .aload_n 0, 0, 0, 0), (64, .iload_n 3, 0, 0, 0), (65, .invokevirtual 92, 75, 2, 518), (68, .istore_n 2, 0, 0, 0), (69, .iinc 4 1, 0, 0, 0), (72, .goto (-44), 28, 0, 0), (75, .iinc 3 1, 0, 0, 0), (78, .goto (-63), 15, 0, 0), (81, .iload_n 2, 0, 0, 0), (82, .ireturn, 0, 0, 0)]
/-- StackPolicyKernelModel.overhang(I)I -/
def pg_t77 : List (Nat × mm_E) := [(0, .iconst 0, 0, 0, 0), (1, .istore_n 2, 0, 0, 0), (2, .iconst 0, 0, 0, 0), (3, .istore_n 3, 0, 0, 0), (4, .iload_n 3, 0, 0, 0), (5, .aload_n 0, 0, 0, 0), (6, .getfield 71, 6, 0, 422), (9, .if_icmp .ge 120, 129, 0, 0), (12, .iconst 4, 0, 0, 0), (13, .iload_n 3, 0, 0, 0), (14, .imul, 0, 0, 0), (15, .istore 4, 0, 0, 0), (17, .iload 4, 0, 0, 0), (19, .iconst 4, 0, 0, 0), (20, .iload_n 3, 0, 0, 0), (21, .imul, 0, 0, 0), (22, .aload_n 0, 0, 0, 0), (23, .getfield 19, 6, 4, 426), (26, .iload_n 3, 0, 0, 0), (27, .iaload, 0, 0, 0), (28, .iadd, 0, 0, 0), (29, .if_icmp .ge 94, 123, 0, 0), (32, .aload_n 0, 0, 0, 0), (33, .getfield 13, 6, 2, 424), (36, .iload_n 3, 0, 0, 0), (37, .iaload, 0, 0, 0), (38, .aload_n 0, 0, 0, 0), (39, .getfield 13, 6, 2, 424), (42, .iload_n 1, 0, 0, 0), (43, .iaload, 0, 0, 0), (44, .if_icmp .le 26, 70, 0, 0), (47, .aload_n 0, 0, 0, 0), (48, .aload_n 0, 0, 0, 0), (49, .getfield 22, 6, 5, 427), (52, .iload 4, 0, 0, 0), (54, .iaload, 0, 0, 0), (55, .invokevirtual 96, 76, 2, 531), (58, .aload_n 0, 0, 0, 0), (59, .iload_n 1, 0, 0, 0), (60, .invokevirtual 92, 75, 2, 518), (63, .if_icmp .lt 7, 70, 0, 0), (66, .iconst 1, 0, 0, 0), (67, .goto 4, 71, 0, 0), (70, .iconst 0, 0, 0, 0), (71, .istore 5, 0, 0, 0), (73, .iload 5, 0, 0, 0), (75, .ifCond .eq 42, 117, 0, 0), (78, .aload_n 0, 0, 0, 0), (79, .getfield 28, 6, 7, 429), (82, .iload 4, 0, 0, 0), (84, .iaload, 0, 0, 0), (85, .aload_n 0, 0, 0, 0), (86, .getfield 25, 6, 6, 428), (89, .iload 4, 0, 0, 0), (91, .iaload, 0, 0, 0), (92, .isub, 0, 0, 0), (93, .iconst 1, 0, 0, 0), (94, .isub, 0, 0, 0), (95, .iload_n 2, 0, 0, 0), (96, .if_icmp .le 21, 117, 0, 0), (99, .aload_n 0, 0, 0, 0), (100, .getfield 28, 6, 7, 429), (103, .iload 4, 0, 0, 0), (105, .iaload, 0, 0, 0), (106, .aload_n 0, 0, 0, 0), (107, .getfield 25, 6, 6, 428), (110, .iload 4, 0, 0, 0), (112, .iaload, 0, 0, 0), (113, .isub, 0, 0, 0), (114, .iconst 1, 0, 0, 0), (115, .isub, 0, 0, 0), (116, .istore_n 2, 0, 0, 0), (117, .iinc 4 1, 0, 0, 0), (120, .goto (-103), 17, 0, 0), (123, .iinc 3 1, 0, 0, 0), (126, .goto (-122), 4, 0, 0), (129, .iload_n 2, 0, 0, 0), (130, .ireturn, 0, 0, 0)]
/-- StackPolicyKernelModel.passes(I)Z -/
def pg_t78 : List (Nat × mm_E) := [(0, .aload_n 0, 0, 0, 0), (1, .getfield 83, 6, 10, 432), (4, .ifCond .le 11, 15, 0, 0), (7, .aload_n 0, 0, 0, 0), (8, .getfield 86, 6, 11, 433), (11, .i2l, 0, 0, 0), (12, .goto 4, 16, 0, 0), (15, .lconst 1, 0, 0, 0), (16, .lstore_n 2, 0, 0, 0), (17, .iconst 0, 0, 0, 0), (18, .istore 4, 0, 0, 0), (20, .iload 4, 0, 0, 0), (22, .aload_n 0, 0, 0, 0), (23, .getfield 71, 6, 0, 422), (26, .if_icmp .ge 36, 62, 0, 0), (29, .aload_n 0, 0, 0, 0), (30, .getfield 13, 6, 2, 424), (33, .iload 4, 0, 0, 0), (35, .iaload, 0, 0, 0), (36, .aload_n 0, 0, 0, 0), (37, .getfield 13, 6, 2, 424), (40, .iload_n 1, 0, 0, 0), (41, .iaload, 0, 0, 0), (42, .if_icmp .gt 14, 56, 0, 0), (45, .lload_n 2, 0, 0, 0), (46, .aload_n 0, 0, 0, 0), (47, .getfield 13, 6, 2, 424), (50, .iload 4, 0, 0, 0), (52, .iaload, 0, 0, 0), (53, .i2l, 0, 0, 0), (54, .lmul, 0, 0, 0), (55, .lstore_n 2, 0, 0, 0), (56, .iinc 4 1, 0, 0, 0), (59, .goto (-39), 20, 0, 0), (62, .aload_n 0, 0, 0, 0), (63, .getfield 83, 6, 10, 432), (66, .ifCond .le 19, 85, 0, 0), (69, .lload_n 2, 0, 0, 0), (70, .aload_n 0, 0, 0, 0), (71, .getfield 86, 6, 11, 433), (74, .i2l, 0, 0, 0), (75, .ldiv, 0, 0, 0), (76, .aload_n 0, 0, 0, 0), (77, .getfield 83, 6, 10, 432), (80, .i2l, 0, 0, 0), (81, .lmul, 0, 0, 0), (82, .goto 4, 86, 0, 0), (85, .lconst 0, 0, 0, 0), (86, .lstore 4, 0, 0, 0), (88, .iconst 0, 0, 0, 0), (89, .istore 6, 0, 0, 0), (91, .iload 6, 0, 0, 0), (93, .aload_n 0, 0, 0, 0), (94, .getfield 71, 6, 0, 422), (97, .if_icmp .ge 49, 146, 0, 0), (100, .aload_n 0, 0, 0, 0), (101, .getfield 13, 6, 2, 424), (104, .iload 6, 0, 0, 0), (106, .iaload, 0, 0, 0), (107, .aload_n 0, 0, 0, 0), (108, .getfield 13, 6, 2, 424), (111, .iload_n 1, 0, 0, 0), (112, .iaload, 0, 0, 0), (113, .if_icmp .gt 27, 140, 0, 0), (116, .lload 4, 0, 0, 0), (118, .lload_n 2, 0, 0, 0), (119, .aload_n 0, 0, 0, 0), (120, .getfield 13, 6, 2, 424), (123, .iload 6, 0, 0, 0), (125, .iaload, 0, 0, 0), (126, .i2l, 0, 0, 0), (127, .ldiv, 0, 0, 0), (128, .aload_n 0, 0, 0, 0), (129, .getfield 16, 6, 3, 425), (132, .iload 6, 0, 0, 0), (134, .iaload, 0, 0, 0), (135, .i2l, 0, 0, 0), (136, .lmul, 0, 0, 0), (137, .ladd, 0, 0, 0), (138, .lstore 4, 0, 0, 0), (140, .iinc 6 1, 0, 0, 0), (143, .goto (-52), 91, 0, 0), (146, .aload_n 0, 0, 0, 0), (147, .iload_n 1, 0, 0, 0), (148, .invokevirtual 99, 77, 2, 528), (151, .istore 6, 0, 0, 0), (153, .lload 4, 0, 0, 0), (155, .lload_n 2, 0, 0, 0), (156, .aload_n 0, 0, 0, 0), (157, .getfield 13, 6, 2, 424), (160, .iload_n 1, 0, 0, 0), (161, .iaload, 0, 0, 0), (162, .i2l, 0, 0, 0), (163, .ldiv, 0, 0, 0), (164, .iload 6, 0, 0, 0), (166, .i2l, 0, 0, 0), (167, .lmul, 0, 0, 0), (168, .ladd, 0, 0, 0), (169, .lstore 4, 0, 0, 0), (171, .lload 4, 0, 0, 0), (173, .lload_n 2, 0, 0, 0), (174, .lcmp, 0, 0, 0), (175, .ifCond .gt 7, 182, 0, 0), (178, .iconst 1, 0, 0, 0), (179, .goto 4, 183, 0, 0), (182, .iconst 0, 0, 0, 0), (183, .ireturn, 0, 0, 0)]
/-- StackPolicyKernelModel.verdict()I -/
def pg_t79 : List (Nat × mm_E) := [(0, .iconst 0, 0, 0, 0), (1, .istore_n 1, 0, 0, 0), (2, .iload_n 1, 0, 0, 0), (3, .aload_n 0, 0, 0, 0), (4, .getfield 71, 6, 0, 422), (7, .if_icmp .ge 19, 26, 0, 0), (10, .aload_n 0, 0, 0, 0), (11, .iload_n 1, 0, 0, 0), (12, .invokevirtual 102, 78, 2, 525), (15, .ifCond .ne 5, 20, 0, 0), (18, .iload_n 1, 0, 0, 0), (19, .ireturn, 0, 0, 0), (20, .iinc 1 1, 0, 0, 0), (23, .goto (-21), 2, 0, 0), (26, .iconst (-1), 0, 0, 0), (27, .ireturn, 0, 0, 0)]
/-- StackPolicyKernelModel.release(II)I -/
def pg_t80 : List (Nat × mm_E) := [(0, .aload_n 0, 0, 0, 0), (1, .getfield 67, 6, 8, 430), (4, .ifCond .ne 5, 9, 0, 0), (7, .iconst (-1), 0, 0, 0), (8, .ireturn, 0, 0, 0), (9, .aload_n 0, 0, 0, 0), (10, .iload_n 1, 0, 0, 0), (11, .invokevirtual 79, 71, 2, 503), (14, .ifCond .eq 18, 32, 0, 0), (17, .iload_n 2, 0, 0, 0), (18, .iconst 1, 0, 0, 0), (19, .if_icmp .lt 13, 32, 0, 0), (22, .iload_n 2, 0, 0, 0), (23, .aload_n 0, 0, 0, 0), (24, .getfield 16, 6, 3, 425), (27, .iload_n 1, 0, 0, 0), (28, .iaload, 0, 0, 0), (29, .if_icmp .le 6, 35, 0, 0), (32, .bipush (-2), 0, 0, 0), (34, .ireturn, 0, 0, 0), (35, .aload_n 0, 0, 0, 0), (36, .getfield 34, 6, 18, 440), (39, .iload_n 1, 0, 0, 0), (40, .iaload, 0, 0, 0), (41, .iconst 1, 0, 0, 0), (42, .if_icmp .ne 6, 48, 0, 0), (45, .bipush (-3), 0, 0, 0), (47, .ireturn, 0, 0, 0), (48, .aload_n 0, 0, 0, 0), (49, .getfield 34, 6, 18, 440), (52, .iload_n 1, 0, 0, 0), (53, .iaload, 0, 0, 0), (54, .iconst 2, 0, 0, 0), (55, .if_icmp .ne 26, 81, 0, 0), (58, .aload_n 0, 0, 0, 0), (59, .getfield 105, 6, 9, 431), (62, .aload_n 0, 0, 0, 0), (63, .getfield 37, 6, 19, 441), (66, .iload_n 1, 0, 0, 0), (67, .iaload, 0, 0, 0), (68, .isub, 0, 0, 0), (69, .aload_n 0, 0, 0, 0), (70, .getfield 7, 6, 1, 423), (73, .iload_n 1, 0, 0, 0), (74, .iaload, 0, 0, 0), (75, .if_icmp .ge 6, 81, 0, 0), (78, .bipush (-4), 0, 0, 0), (80, .ireturn, 0, 0, 0), (81, .aload_n 0, 0, 0, 0), (82, .getfield 34, 6, 18, 440), (85, .iload_n 1, 0, 0, 0), (86, .iconst 1, 0, 0, 0), (87, .iastore, 0, 0, 0), (88, .aload_n 0, 0, 0, 0), (89, .getfield 37, 6, 19, 441), (92, .iload_n 1, 0, 0, 0), (93, .aload_n 0, 0, 0, 0), (94, .getfield 105, 6, 9, 431), (97, .iastore, 0, 0, 0), (98, .aload_n 0, 0, 0, 0), (99, .getfield 40, 6, 20, 442), (102, .iload_n 1, 0, 0, 0), (103, .iload_n 2, 0, 0, 0), (104, .iastore, 0, 0, 0), (105, .aload_n 0, 0, 0, 0), (106, .getfield 43, 6, 21, 443), (109, .iload_n 1, 0, 0, 0), (110, .iconst 0, 0, 0, 0), (111, .iastore, 0, 0, 0), (112, .aload_n 0, 0, 0, 0), (113, .getfield 46, 6, 22, 444), (116, .iload_n 1, 0, 0, 0), (117, .iconst 0, 0, 0, 0), (118, .iastore, 0, 0, 0), (119, .aload_n 0, 0, 0, 0), (120, .getfield 49, 6, 23, 445), (123, .iload_n 1, 0, 0, 0), (124, .iconst 0, 0, 0, 0), (125, .iastore, 0, 0, 0), (126, .aload_n 0, 0, 0, 0), (127, .getfield 52, 6, 24, 446), (130, .iload_n 1, 0, 0, 0), (131, .iconst 0, 0, 0, 0), (132, .iastore, 0, 0, 0), (133, .aload_n 0, 0, 0, 0), (134, .dup, 0, 0, 0), (135, .getfield 108, 6, 29, 451), (138, .iconst 1, 0, 0, 0), (139, .iadd, 0, 0, 0), (140, .putfield 108, 6, 29, 451), (143, .aload_n 0, 0, 0, 0), (144, .getfield 108, 6, 29, 451), (147, .ireturn, 0, 0, 0)]
/-- StackPolicyKernelModel.submit(I)Z -/
def pg_t81 : List (Nat × mm_E) := [(0, .aload_n 0, 0, 0, 0), (1, .getfield 67, 6, 8, 430), (4, .ifCond .eq 30, 34, 0, 0), (7, .aload_n 0, 0, 0, 0), (8, .getfield 83, 6, 10, 432), (11, .ifCond .eq 23, 34, 0, 0), (14, .iload_n 1, 0, 0, 0), (15, .iconst 1, 0, 0, 0), (16, .if_icmp .lt 18, 34, 0, 0), (19, .iload_n 1, 0, 0, 0), (20, .bipush 50, 0, 0, 0), (22, .if_icmp .gt 12, 34, 0, 0), (25, .aload_n 0, 0, 0, 0), (26, .getfield 111, 6, 14, 436), (29, .bipush 8, 0, 0, 0), (31, .if_icmp .ne 5, 36, 0, 0), (34, .iconst 0, 0, 0, 0), (35, .ireturn, 0, 0, 0), (36, .aload_n 0, 0, 0, 0), (37, .getfield 111, 6, 14, 436), (40, .ifCond .ne 50, 90, 0, 0), (43, .aload_n 0, 0, 0, 0), (44, .getfield 89, 6, 12, 434), (47, .aload_n 0, 0, 0, 0), (48, .getfield 86, 6, 11, 433), (51, .imul, 0, 0, 0), (52, .aload_n 0, 0, 0, 0), (53, .getfield 114, 6, 13, 435), (56, .aload_n 0, 0, 0, 0), (57, .getfield 105, 6, 9, 431), (60, .isub, 0, 0, 0), (61, .aload_n 0, 0, 0, 0), (62, .getfield 83, 6, 10, 432), (65, .imul, 0, 0, 0), (66, .if_icmp .lt 24, 90, 0, 0), (69, .aload_n 0, 0, 0, 0), (70, .aload_n 0, 0, 0, 0), (71, .getfield 105, 6, 9, 431), (74, .aload_n 0, 0, 0, 0), (75, .getfield 86, 6, 11, 433), (78, .iadd, 0, 0, 0), (79, .putfield 114, 6, 13, 435), (82, .aload_n 0, 0, 0, 0), (83, .aload_n 0, 0, 0, 0), (84, .getfield 83, 6, 10, 432), (87, .putfield 89, 6, 12, 434), (90, .aload_n 0, 0, 0, 0), (91, .getfield 31, 6, 15, 437), (94, .aload_n 0, 0, 0, 0), (95, .getfield 111, 6, 14, 436), (98, .iload_n 1, 0, 0, 0), (99, .iastore, 0, 0, 0), (100, .aload_n 0, 0, 0, 0), (101, .dup, 0, 0, 0), (102, .getfield 111, 6, 14, 436), (105, .iconst 1, 0, 0, 0), (106, .iadd, 0, 0, 0), (107, .putfield 111, 6, 14, 436), (110, .iconst 1, 0, 0, 0), (111, .ireturn, 0, 0, 0)]
/-- StackPolicyKernelModel.there(I)Z -/
def pg_t82 : List (Nat × mm_E) := [(0, .iload_n 1, 0, 0, 0), (1, .bipush 6, 0, 0, 0), (3, .if_icmp .ne 18, 21, 0, 0), (6, .aload_n 0, 0, 0, 0), (7, .getfield 111, 6, 14, 436), (10, .ifCond .le 7, 17, 0, 0), (13, .iconst 1, 0, 0, 0), (14, .goto 22, 36, 0, 0), (17, .iconst 0, 0, 0, 0), (18, .goto 18, 36, 0, 0), (21, .aload_n 0, 0, 0, 0), (22, .getfield 34, 6, 18, 440), (25, .iload_n 1, 0, 0, 0), (26, .iaload, 0, 0, 0), (27, .iconst 1, 0, 0, 0), (28, .if_icmp .ne 7, 35, 0, 0), (31, .iconst 1, 0, 0, 0), (32, .goto 4, 36, 0, 0), (35, .iconst 0, 0, 0, 0), (36, .ireturn, 0, 0, 0)]
/-- StackPolicyKernelModel.deadline(I)I -/
def pg_t83 : List (Nat × mm_E) := [(0, .iload_n 1, 0, 0, 0), (1, .bipush 6, 0, 0, 0), (3, .if_icmp .ne 10, 13, 0, 0), (6, .aload_n 0, 0, 0, 0), (7, .getfield 114, 6, 13, 435), (10, .goto 16, 26, 0, 0), (13, .aload_n 0, 0, 0, 0), (14, .getfield 37, 6, 19, 441), (17, .iload_n 1, 0, 0, 0), (18, .iaload, 0, 0, 0), (19, .aload_n 0, 0, 0, 0), (20, .getfield 13, 6, 2, 424), (23, .iload_n 1, 0, 0, 0), (24, .iaload, 0, 0, 0), (25, .iadd, 0, 0, 0), (26, .ireturn, 0, 0, 0)]
/-- StackPolicyKernelModel.earlier(II)Z -/
def pg_t84 : List (Nat × mm_E) := [(0, .aload_n 0, 0, 0, 0), (1, .iload_n 1, 0, 0, 0), (2, .invokevirtual 117, 83, 2, 571), (5, .istore_n 3, 0, 0, 0), (6, .aload_n 0, 0, 0, 0), (7, .iload_n 2, 0, 0, 0), (8, .invokevirtual 117, 83, 2, 571), (11, .istore 4, 0, 0, 0), (13, .iload_n 3, 0, 0, 0), (14, .iload 4, 0, 0, 0), (16, .if_icmp .lt 14, 30, 0, 0), (19, .iload_n 3, 0, 0, 0), (20, .iload 4, 0, 0, 0), (22, .if_icmp .ne 12, 34, 0, 0), (25, .iload_n 1, 0, 0, 0), (26, .iload_n 2, 0, 0, 0), (27, .if_icmp .ge 7, 34, 0, 0), (30, .iconst 1, 0, 0, 0), (31, .goto 4, 35, 0, 0), (34, .iconst 0, 0, 0, 0), (35, .ireturn, 0, 0, 0)]
/-- StackPolicyKernelModel.inOrder(I)I -/
def pg_t85 : List (Nat × mm_E) := [(0, .iconst 0, 0, 0, 0), (1, .istore_n 2, 0, 0, 0), (2, .iload_n 2, 0, 0, 0), (3, .bipush 6, 0, 0, 0), (5, .if_icmp .gt 64, 69, 0, 0), (8, .iconst 0, 0, 0, 0), (9, .istore_n 3, 0, 0, 0), (10, .iconst 0, 0, 0, 0), (11, .istore 4, 0, 0, 0), (13, .iload 4, 0, 0, 0), (15, .bipush 6, 0, 0, 0), (17, .if_icmp .gt 31, 48, 0, 0), (20, .aload_n 0, 0, 0, 0), (21, .iload 4, 0, 0, 0), (23, .invokevirtual 120, 82, 2, 565), (26, .ifCond .eq 16, 42, 0, 0), (29, .aload_n 0, 0, 0, 0), (30, .iload 4, 0, 0, 0), (32, .iload_n 2, 0, 0, 0), (33, .invokevirtual 123, 84, 3, 568), (36, .ifCond .eq 6, 42, 0, 0), (39, .iinc 3 1, 0, 0, 0), (42, .iinc 4 1, 0, 0, 0), (45, .goto (-32), 13, 0, 0), (48, .aload_n 0, 0, 0, 0), (49, .iload_n 2, 0, 0, 0), (50, .invokevirtual 120, 82, 2, 565), (53, .ifCond .eq 10, 63, 0, 0), (56, .iload_n 3, 0, 0, 0), (57, .iload_n 1, 0, 0, 0), (58, .if_icmp .ne 5, 63, 0, 0), (61, .iload_n 2, 0, 0, 0), (62, .ireturn, 0, 0, 0), (63, .iinc 2 1, 0, 0, 0), (66, .goto (-64), 2, 0, 0), (69, .iconst (-1), 0, 0, 0), (70, .ireturn, 0, 0, 0)]
/-- StackPolicyKernelModel.holds(II)Z -/
def pg_t86 : List (Nat × mm_E) := [(0, .aload_n 0, 0, 0, 0), (1, .getfield 34, 6, 18, 440), (4, .iload_n 1, 0, 0, 0), (5, .iaload, 0, 0, 0), (6, .iconst 1, 0, 0, 0), (7, .if_icmp .eq 5, 12, 0, 0), (10, .iconst 0, 0, 0, 0), (11, .ireturn, 0, 0, 0), (12, .iconst 4, 0, 0, 0), (13, .iload_n 1, 0, 0, 0), (14, .imul, 0, 0, 0), (15, .istore_n 3, 0, 0, 0), (16, .iload_n 3, 0, 0, 0), (17, .iconst 4, 0, 0, 0), (18, .iload_n 1, 0, 0, 0), (19, .imul, 0, 0, 0), (20, .aload_n 0, 0, 0, 0), (21, .getfield 19, 6, 4, 426), (24, .iload_n 1, 0, 0, 0), (25, .iaload, 0, 0, 0), (26, .iadd, 0, 0, 0), (27, .if_icmp .ge 51, 78, 0, 0), (30, .aload_n 0, 0, 0, 0), (31, .getfield 22, 6, 5, 427), (34, .iload_n 3, 0, 0, 0), (35, .iaload, 0, 0, 0), (36, .iload_n 2, 0, 0, 0), (37, .if_icmp .ne 35, 72, 0, 0), (40, .aload_n 0, 0, 0, 0), (41, .getfield 25, 6, 6, 428), (44, .iload_n 3, 0, 0, 0), (45, .iaload, 0, 0, 0), (46, .aload_n 0, 0, 0, 0), (47, .getfield 43, 6, 21, 443), (50, .iload_n 1, 0, 0, 0), (51, .iaload, 0, 0, 0), (52, .if_icmp .ge 20, 72, 0, 0), (55, .aload_n 0, 0, 0, 0), (56, .getfield 43, 6, 21, 443), (59, .iload_n 1, 0, 0, 0), (60, .iaload, 0, 0, 0), (61, .aload_n 0, 0, 0, 0), (62, .getfield 28, 6, 7, 429), (65, .iload_n 3, 0, 0, 0), (66, .iaload, 0, 0, 0), (67, .if_icmp .ge 5, 72, 0, 0), (70, .iconst 1, 0, 0, 0), (71, .ireturn, 0, 0, 0), (72, .iinc 3 1, 0, 0, 0), (75, .goto (-59), 16, 0, 0), (78, .iconst 0, 0, 0, 0), (79, .ireturn, 0, 0, 0)]
/-- StackPolicyKernelModel.holdsAny(I)Z -/
def pg_t87 : List (Nat × mm_E) := [(0, .aload_n 0, 0, 0, 0), (1, .iload_n 1, 0, 0, 0), (2, .iconst 0, 0, 0, 0), (3, .invokevirtual 127, 86, 3, 544), (6, .ifCond .ne 30, 36, 0, 0), (9, .aload_n 0, 0, 0, 0), (10, .iload_n 1, 0, 0, 0), (11, .iconst 1, 0, 0, 0), (12, .invokevirtual 127, 86, 3, 544), (15, .ifCond .ne 21, 36, 0, 0), (18, .aload_n 0, 0, 0, 0), (19, .iload_n 1, 0, 0, 0), (20, .iconst 2, 0, 0, 0), (21, .invokevirtual 127, 86, 3, 544), (24, .ifCond .ne 12, 36, 0, 0), (27, .aload_n 0, 0, 0, 0), (28, .iload_n 1, 0, 0, 0), (29, .iconst 3, 0, 0, 0), (30, .invokevirtual 127, 86, 3, 544), (33, .ifCond .eq 7, 40, 0, 0), (36, .iconst 1, 0, 0, 0), (37, .goto 4, 41, 0, 0), (40, .iconst 0, 0, 0, 0), (41, .ireturn, 0, 0, 0)]
/-- StackPolicyKernelModel.holder(I)I -/
def pg_t88 : List (Nat × mm_E) := [(0, .iload_n 1, 0, 0, 0), (1, .ifCond .lt 8, 9, 0, 0), (4, .iload_n 1, 0, 0, 0), (5, .iconst 3, 0, 0, 0), (6, .if_icmp .le 5, 11, 0, 0), (9, .iconst (-1), 0, 0, 0), (10, .ireturn, 0, 0, 0), (11, .iconst 0, 0, 0, 0), (12, .istore_n 2, 0, 0, 0), (13, .iload_n 2, 0, 0, 0), (14, .aload_n 0, 0, 0, 0), (15, .getfield 71, 6, 0, 422), (18, .if_icmp .ge 20, 38, 0, 0), (21, .aload_n 0, 0, 0, 0), (22, .iload_n 2, 0, 0, 0), (23, .iload_n 1, 0, 0, 0), (24, .invokevirtual 127, 86, 3, 544), (27, .ifCond .eq 5, 32, 0, 0), (30, .iload_n 2, 0, 0, 0), (31, .ireturn, 0, 0, 0), (32, .iinc 2 1, 0, 0, 0), (35, .goto (-22), 13, 0, 0), (38, .iconst (-1), 0, 0, 0), (39, .ireturn, 0, 0, 0)]
/-- StackPolicyKernelModel.systemCeiling()I -/
def pg_t89 : List (Nat × mm_E) := [(0, .iconst 0, 0, 0, 0), (1, .istore_n 1, 0, 0, 0), (2, .iconst 0, 0, 0, 0), (3, .istore_n 2, 0, 0, 0), (4, .iload_n 2, 0, 0, 0), (5, .iconst 4, 0, 0, 0), (6, .if_icmp .ge 31, 37, 0, 0), (9, .aload_n 0, 0, 0, 0), (10, .iload_n 2, 0, 0, 0), (11, .invokevirtual 96, 76, 2, 531), (14, .istore_n 3, 0, 0, 0), (15, .aload_n 0, 0, 0, 0), (16, .iload_n 2, 0, 0, 0), (17, .invokevirtual 130, 88, 2, 551), (20, .iconst (-1), 0, 0, 0), (21, .if_icmp .eq 10, 31, 0, 0), (24, .iload_n 3, 0, 0, 0), (25, .iload_n 1, 0, 0, 0), (26, .if_icmp .le 5, 31, 0, 0), (29, .iload_n 3, 0, 0, 0), (30, .istore_n 1, 0, 0, 0), (31, .iinc 2 1, 0, 0, 0), (34, .goto (-30), 4, 0, 0), (37, .iload_n 1, 0, 0, 0), (38, .ireturn, 0, 0, 0)]
/-- StackPolicyKernelModel.choice()I -/
def pg_t90 : List (Nat × mm_E) := [(0, .aload_n 0, 0, 0, 0), (1, .iconst 0, 0, 0, 0), (2, .invokevirtual 133, 85, 2, 562), (5, .istore_n 1, 0, 0, 0), (6, .iload_n 1, 0, 0, 0), (7, .ifCond .lt 18, 25, 0, 0), (10, .iload_n 1, 0, 0, 0), (11, .bipush 6, 0, 0, 0), (13, .if_icmp .eq 12, 25, 0, 0), (16, .aload_n 0, 0, 0, 0), (17, .getfield 43, 6, 21, 443), (20, .iload_n 1, 0, 0, 0), (21, .iaload, 0, 0, 0), (22, .ifCond .le 5, 27, 0, 0), (25, .iload_n 1, 0, 0, 0), (26, .ireturn, 0, 0, 0), (27, .aload_n 0, 0, 0, 0), (28, .invokevirtual 136, 89, 1, 574), (31, .istore_n 2, 0, 0, 0), (32, .aload_n 0, 0, 0, 0), (33, .iload_n 1, 0, 0, 0), (34, .invokevirtual 92, 75, 2, 518), (37, .iload_n 2, 0, 0, 0), (38, .if_icmp .le 5, 43, 0, 0), (41, .iload_n 1, 0, 0, 0), (42, .ireturn, 0, 0, 0), (43, .iconst 0, 0, 0, 0), (44, .istore_n 3, 0, 0, 0), (45, .iload_n 3, 0, 0, 0), (46, .iconst 4, 0, 0, 0), (47, .if_icmp .ge 37, 84, 0, 0), (50, .aload_n 0, 0, 0, 0), (51, .iload_n 3, 0, 0, 0), (52, .invokevirtual 96, 76, 2, 531), (55, .istore 4, 0, 0, 0), (57, .iload 4, 0, 0, 0), (59, .iload_n 2, 0, 0, 0), (60, .if_icmp .ne 18, 78, 0, 0), (63, .aload_n 0, 0, 0, 0), (64, .iload_n 3, 0, 0, 0), (65, .invokevirtual 130, 88, 2, 551), (68, .iconst (-1), 0, 0, 0), (69, .if_icmp .eq 9, 78, 0, 0), (72, .aload_n 0, 0, 0, 0), (73, .iload_n 3, 0, 0, 0), (74, .invokevirtual 130, 88, 2, 551), (77, .ireturn, 0, 0, 0), (78, .iinc 3 1, 0, 0, 0), (81, .goto (-36), 45, 0, 0), (84, .iconst (-1), 0, 0, 0), (85, .ireturn, 0, 0, 0)]
/-- StackPolicyKernelModel.serve()I -/
def pg_t91 : List (Nat × mm_E) := [(0, .aload_n 0, 0, 0, 0), (1, .getfield 31, 6, 15, 437), (4, .iconst 0, 0, 0, 0), (5, .dup2, 0, 0, 0), (6, .iaload, 0, 0, 0), (7, .iconst 1, 0, 0, 0), (8, .isub, 0, 0, 0), (9, .iastore, 0, 0, 0), (10, .aload_n 0, 0, 0, 0), (11, .dup, 0, 0, 0), (12, .getfield 89, 6, 12, 434), (15, .iconst 1, 0, 0, 0), (16, .isub, 0, 0, 0), (17, .putfield 89, 6, 12, 434), (20, .iconst 0, 0, 0, 0), (21, .istore_n 1, 0, 0, 0), (22, .aload_n 0, 0, 0, 0), (23, .getfield 31, 6, 15, 437), (26, .iconst 0, 0, 0, 0), (27, .iaload, 0, 0, 0), (28, .ifCond .ne 55, 83, 0, 0), (31, .iconst 1, 0, 0, 0), (32, .istore_n 2, 0, 0, 0), (33, .iload_n 2, 0, 0, 0), (34, .aload_n 0, 0, 0, 0), (35, .getfield 111, 6, 14, 436), (38, .if_icmp .ge 23, 61, 0, 0), (41, .aload_n 0, 0, 0, 0), (42, .getfield 31, 6, 15, 437), (45, .iload_n 2, 0, 0, 0), (46, .iconst 1, 0, 0, 0), (47, .isub, 0, 0, 0), (48, .aload_n 0, 0, 0, 0), (49, .getfield 31, 6, 15, 437), (52, .iload_n 2, 0, 0, 0), (53, .iaload, 0, 0, 0), (54, .iastore, 0, 0, 0), (55, .iinc 2 1, 0, 0, 0), (58, .goto (-25), 33, 0, 0), (61, .aload_n 0, 0, 0, 0), (62, .dup, 0, 0, 0), (63, .getfield 111, 6, 14, 436), (66, .iconst 1, 0, 0, 0), (67, .isub, 0, 0, 0), (68, .putfield 111, 6, 14, 436), (71, .aload_n 0, 0, 0, 0), (72, .dup, 0, 0, 0), (73, .getfield 140, 6, 17, 439), (76, .iconst 1, 0, 0, 0), (77, .iadd, 0, 0, 0), (78, .putfield 140, 6, 17, 439), (81, .iconst 1, 0, 0, 0), (82, .istore_n 1, 0, 0, 0), (83, .aload_n 0, 0, 0, 0), (84, .getfield 89, 6, 12, 434), (87, .ifCond .ne 34, 121, 0, 0), (90, .aload_n 0, 0, 0, 0), (91, .aload_n 0, 0, 0, 0), (92, .getfield 83, 6, 10, 432), (95, .putfield 89, 6, 12, 434), (98, .aload_n 0, 0, 0, 0), (99, .aload_n 0, 0, 0, 0), (100, .getfield 114, 6, 13, 435), (103, .aload_n 0, 0, 0, 0), (104, .getfield 86, 6, 11, 433), (107, .iadd, 0, 0, 0), (108, .putfield 114, 6, 13, 435), (111, .aload_n 0, 0, 0, 0), (112, .dup, 0, 0, 0), (113, .getfield 143, 6, 16, 438), (116, .iconst 1, 0, 0, 0), (117, .iadd, 0, 0, 0), (118, .putfield 143, 6, 16, 438), (121, .iload_n 1, 0, 0, 0), (122, .ireturn, 0, 0, 0)]
/-- StackPolicyKernelModel.stop(II)V -/
def pg_t92 : List (Nat × mm_E) := [(0, .aload_n 0, 0, 0, 0), (1, .getfield 46, 6, 22, 444), (4, .iload_n 1, 0, 0, 0), (5, .dup2, 0, 0, 0), (6, .iaload, 0, 0, 0), (7, .iconst 1, 0, 0, 0), (8, .iadd, 0, 0, 0), (9, .iastore, 0, 0, 0), (10, .iload_n 2, 0, 0, 0), (11, .ifCond .ne 4, 15, 0, 0), (14, .return_, 0, 0, 0), (15, .iconst 0, 0, 0, 0), (16, .istore_n 3, 0, 0, 0), (17, .iload_n 3, 0, 0, 0), (18, .aload_n 0, 0, 0, 0), (19, .getfield 52, 6, 24, 446), (22, .iload_n 1, 0, 0, 0), (23, .iaload, 0, 0, 0), (24, .if_icmp .ge 25, 49, 0, 0), (27, .aload_n 0, 0, 0, 0), (28, .getfield 55, 6, 25, 447), (31, .bipush 60, 0, 0, 0), (33, .iload_n 1, 0, 0, 0), (34, .imul, 0, 0, 0), (35, .iload_n 3, 0, 0, 0), (36, .iadd, 0, 0, 0), (37, .iaload, 0, 0, 0), (38, .iload_n 2, 0, 0, 0), (39, .if_icmp .ne 4, 43, 0, 0), (42, .return_, 0, 0, 0), (43, .iinc 3 1, 0, 0, 0), (46, .goto (-29), 17, 0, 0), (49, .aload_n 0, 0, 0, 0), (50, .getfield 52, 6, 24, 446), (53, .iload_n 1, 0, 0, 0), (54, .iaload, 0, 0, 0), (55, .bipush 60, 0, 0, 0), (57, .if_icmp .ne 4, 61, 0, 0), (60, .return_, 0, 0, 0), (61, .aload_n 0, 0, 0, 0), (62, .getfield 55, 6, 25, 447), (65, .bipush 60, 0, 0, 0), (67, .iload_n 1, 0, 0, 0), (68, .imul, 0, 0, 0), (69, .aload_n 0, 0, 0, 0), (70, .getfield 52, 6, 24, 446), (73, .iload_n 1, 0, 0, 0), (74, .iaload, 0, 0, 0), (75, .iadd, 0, 0, 0), (76, .iload_n 2, 0, 0, 0), (77, .iastore, 0, 0, 0), (78, .aload_n 0, 0, 0, 0), (79, .getfield 52, 6, 24, 446), (82, .iload_n 1, 0, 0, 0), (83, .dup2, 0, 0, 0), (84, .iaload, 0, 0, 0), (85, .iconst 1, 0, 0, 0), (86, .iadd, 0, 0, 0), (87, .iastore, 0, 0, 0), (88, .return_, 0, 0, 0)]
/-- StackPolicyKernelModel.work(I)I -/
def pg_t93 : List (Nat × mm_E) := [(0, .aload_n 0, 0, 0, 0), (1, .iload_n 1, 0, 0, 0), (2, .invokevirtual 146, 87, 2, 581), (5, .istore_n 2, 0, 0, 0), (6, .aload_n 0, 0, 0, 0), (7, .getfield 43, 6, 21, 443), (10, .iload_n 1, 0, 0, 0), (11, .dup2, 0, 0, 0), (12, .iaload, 0, 0, 0), (13, .iconst 1, 0, 0, 0), (14, .iadd, 0, 0, 0), (15, .iastore, 0, 0, 0), (16, .aload_n 0, 0, 0, 0), (17, .getfield 43, 6, 21, 443), (20, .iload_n 1, 0, 0, 0), (21, .iaload, 0, 0, 0), (22, .aload_n 0, 0, 0, 0), (23, .getfield 40, 6, 20, 442), (26, .iload_n 1, 0, 0, 0), (27, .iaload, 0, 0, 0), (28, .if_icmp .ne 7, 35, 0, 0), (31, .iconst 1, 0, 0, 0), (32, .goto 4, 36, 0, 0), (35, .iconst 0, 0, 0, 0), (36, .istore_n 3, 0, 0, 0), (37, .iload_n 3, 0, 0, 0), (38, .ifCond .eq 10, 48, 0, 0), (41, .aload_n 0, 0, 0, 0), (42, .getfield 34, 6, 18, 440), (45, .iload_n 1, 0, 0, 0), (46, .iconst 2, 0, 0, 0), (47, .iastore, 0, 0, 0), (48, .aload_n 0, 0, 0, 0), (49, .iload_n 1, 0, 0, 0), (50, .invokevirtual 146, 87, 2, 581), (53, .istore 4, 0, 0, 0), (55, .iload_n 2, 0, 0, 0), (56, .ifCond .ne 28, 84, 0, 0), (59, .iload 4, 0, 0, 0), (61, .ifCond .eq 23, 84, 0, 0), (64, .aload_n 0, 0, 0, 0), (65, .dup, 0, 0, 0), (66, .getfield 149, 6, 28, 450), (69, .iconst 1, 0, 0, 0), (70, .iadd, 0, 0, 0), (71, .putfield 149, 6, 28, 450), (74, .aload_n 0, 0, 0, 0), (75, .getfield 49, 6, 23, 445), (78, .iload_n 1, 0, 0, 0), (79, .aload_n 0, 0, 0, 0), (80, .getfield 149, 6, 28, 450), (83, .iastore, 0, 0, 0), (84, .iconst 0, 0, 0, 0), (85, .istore 5, 0, 0, 0), (87, .iload 5, 0, 0, 0), (89, .aload_n 0, 0, 0, 0), (90, .getfield 71, 6, 0, 422), (93, .if_icmp .ge 48, 141, 0, 0), (96, .iload 5, 0, 0, 0), (98, .iload_n 1, 0, 0, 0), (99, .if_icmp .eq 36, 135, 0, 0), (102, .aload_n 0, 0, 0, 0), (103, .getfield 34, 6, 18, 440), (106, .iload 5, 0, 0, 0), (108, .iaload, 0, 0, 0), (109, .iconst 1, 0, 0, 0), (110, .if_icmp .ne 25, 135, 0, 0), (113, .aload_n 0, 0, 0, 0), (114, .iload 5, 0, 0, 0), (116, .iload_n 1, 0, 0, 0), (117, .invokevirtual 123, 84, 3, 568), (120, .ifCond .eq 15, 135, 0, 0), (123, .aload_n 0, 0, 0, 0), (124, .iload 5, 0, 0, 0), (126, .aload_n 0, 0, 0, 0), (127, .getfield 49, 6, 23, 445), (130, .iload_n 1, 0, 0, 0), (131, .iaload, 0, 0, 0), (132, .invokevirtual 152, 92, 3, 584), (135, .iinc 5 1, 0, 0, 0), (138, .goto (-51), 87, 0, 0), (141, .iload 4, 0, 0, 0), (143, .ifCond .ne 10, 153, 0, 0), (146, .aload_n 0, 0, 0, 0), (147, .getfield 49, 6, 23, 445), (150, .iload_n 1, 0, 0, 0), (151, .iconst 0, 0, 0, 0), (152, .iastore, 0, 0, 0), (153, .iload_n 3, 0, 0, 0), (154, .ifCond .ne 5, 159, 0, 0), (157, .iconst 0, 0, 0, 0), (158, .ireturn, 0, 0, 0), (159, .aload_n 0, 0, 0, 0), (160, .dup, 0, 0, 0), (161, .getfield 156, 6, 30, 452), (164, .iconst 1, 0, 0, 0), (165, .iadd, 0, 0, 0), (166, .putfield 156, 6, 30, 452), (169, .aload_n 0, 0, 0, 0), (170, .getfield 105, 6, 9, 431), (173, .iconst 1, 0, 0, 0), (174, .iadd, 0, 0, 0), (175, .aload_n 0, 0, 0, 0), (176, .getfield 37, 6, 19, 441), (179, .iload_n 1, 0, 0, 0), (180, .iaload, 0, 0, 0), (181, .isub, 0, 0, 0), (182, .istore 5, 0, 0, 0), (184, .iload 5, 0, 0, 0), (186, .aload_n 0, 0, 0, 0), (187, .getfield 61, 6, 27, 449), (190, .iload_n 1, 0, 0, 0), (191, .iaload, 0, 0, 0), (192, .if_icmp .le 11, 203, 0, 0), (195, .aload_n 0, 0, 0, 0), (196, .getfield 61, 6, 27, 449), (199, .iload_n 1, 0, 0, 0), (200, .iload 5, 0, 0, 0), (202, .iastore, 0, 0, 0), (203, .iconst 1, 0, 0, 0), (204, .ireturn, 0, 0, 0)]
/-- StackPolicyKernelModel.tick()I -/
def pg_t94 : List (Nat × mm_E) := [(0, .aload_n 0, 0, 0, 0), (1, .invokevirtual 159, 90, 1, 559), (4, .istore_n 1, 0, 0, 0), (5, .iload_n 1, 0, 0, 0), (6, .ifCond .ge 7, 13, 0, 0), (9, .iconst 0, 0, 0, 0), (10, .goto 21, 31, 0, 0), (13, .iload_n 1, 0, 0, 0), (14, .bipush 6, 0, 0, 0), (16, .if_icmp .ne 10, 26, 0, 0), (19, .aload_n 0, 0, 0, 0), (20, .invokevirtual 162, 91, 1, 575), (23, .goto 8, 31, 0, 0), (26, .aload_n 0, 0, 0, 0), (27, .iload_n 1, 0, 0, 0), (28, .invokevirtual 165, 93, 2, 578), (31, .istore_n 2, 0, 0, 0), (32, .iload_n 1, 0, 0, 0), (33, .ifCond .ge 7, 40, 0, 0), (36, .iconst 0, 0, 0, 0), (37, .goto 16, 53, 0, 0), (40, .iload_n 1, 0, 0, 0), (41, .bipush 6, 0, 0, 0), (43, .if_icmp .ne 7, 50, 0, 0), (46, .iconst 1, 0, 0, 0), (47, .goto 6, 53, 0, 0), (50, .iconst 2, 0, 0, 0), (51, .iload_n 1, 0, 0, 0), (52, .iadd, 0, 0, 0), (53, .istore_n 3, 0, 0, 0), (54, .iload_n 1, 0, 0, 0), (55, .ifCond .ge 13, 68, 0, 0), (58, .aload_n 0, 0, 0, 0), (59, .dup, 0, 0, 0), (60, .getfield 168, 6, 31, 453), (63, .iconst 1, 0, 0, 0), (64, .iadd, 0, 0, 0), (65, .putfield 168, 6, 31, 453), (68, .aload_n 0, 0, 0, 0), (69, .getfield 171, 6, 33, 455), (72, .ifCond .le 31, 103, 0, 0), (75, .aload_n 0, 0, 0, 0), (76, .getfield 64, 6, 34, 456), (79, .aload_n 0, 0, 0, 0), (80, .getfield 171, 6, 33, 455), (83, .iconst 1, 0, 0, 0), (84, .isub, 0, 0, 0), (85, .bipush 63, 0, 0, 0), (87, .iand, 0, 0, 0), (88, .iaload, 0, 0, 0), (89, .iload_n 3, 0, 0, 0), (90, .if_icmp .eq 13, 103, 0, 0), (93, .aload_n 0, 0, 0, 0), (94, .dup, 0, 0, 0), (95, .getfield 174, 6, 32, 454), (98, .iconst 1, 0, 0, 0), (99, .iadd, 0, 0, 0), (100, .putfield 174, 6, 32, 454), (103, .aload_n 0, 0, 0, 0), (104, .getfield 64, 6, 34, 456), (107, .aload_n 0, 0, 0, 0), (108, .getfield 171, 6, 33, 455), (111, .bipush 63, 0, 0, 0), (113, .iand, 0, 0, 0), (114, .iload_n 3, 0, 0, 0), (115, .iastore, 0, 0, 0), (116, .aload_n 0, 0, 0, 0), (117, .dup, 0, 0, 0), (118, .getfield 171, 6, 33, 455), (121, .iconst 1, 0, 0, 0), (122, .iadd, 0, 0, 0), (123, .putfield 171, 6, 33, 455), (126, .aload_n 0, 0, 0, 0), (127, .dup, 0, 0, 0), (128, .getfield 105, 6, 9, 431), (131, .iconst 1, 0, 0, 0), (132, .iadd, 0, 0, 0), (133, .putfield 105, 6, 9, 431), (136, .iconst 0, 0, 0, 0), (137, .istore 4, 0, 0, 0), (139, .iload 4, 0, 0, 0), (141, .aload_n 0, 0, 0, 0), (142, .getfield 71, 6, 0, 422), (145, .if_icmp .ge 53, 198, 0, 0), (148, .aload_n 0, 0, 0, 0), (149, .getfield 34, 6, 18, 440), (152, .iload 4, 0, 0, 0), (154, .iaload, 0, 0, 0), (155, .iconst 1, 0, 0, 0), (156, .if_icmp .ne 36, 192, 0, 0), (159, .aload_n 0, 0, 0, 0), (160, .getfield 37, 6, 19, 441), (163, .iload 4, 0, 0, 0), (165, .iaload, 0, 0, 0), (166, .aload_n 0, 0, 0, 0), (167, .getfield 13, 6, 2, 424), (170, .iload 4, 0, 0, 0), (172, .iaload, 0, 0, 0), (173, .iadd, 0, 0, 0), (174, .aload_n 0, 0, 0, 0), (175, .getfield 105, 6, 9, 431), (178, .if_icmp .ne 14, 192, 0, 0), (181, .aload_n 0, 0, 0, 0), (182, .getfield 58, 6, 26, 448), (185, .iload 4, 0, 0, 0), (187, .dup2, 0, 0, 0), (188, .iaload, 0, 0, 0), (189, .iconst 1, 0, 0, 0), (190, .iadd, 0, 0, 0), (191, .iastore, 0, 0, 0), (192, .iinc 4 1, 0, 0, 0), (195, .goto (-56), 139, 0, 0), (198, .iload_n 2, 0, 0, 0), (199, .ireturn, 0, 0, 0)]
/-- StackPolicyKernelModel.step(I)I -/
def pg_t95 : List (Nat × mm_E) := [(0, .aload_n 0, 0, 0, 0), (1, .getfield 67, 6, 8, 430), (4, .ifCond .eq 14, 18, 0, 0), (7, .iload_n 1, 0, 0, 0), (8, .ifCond .lt 10, 18, 0, 0), (11, .iload_n 1, 0, 0, 0), (12, .sipush 200, 0, 0, 0), (15, .if_icmp .le 5, 20, 0, 0), (18, .iconst (-1), 0, 0, 0), (19, .ireturn, 0, 0, 0), (20, .iconst 0, 0, 0, 0), (21, .istore_n 2, 0, 0, 0), (22, .iconst 0, 0, 0, 0), (23, .istore_n 3, 0, 0, 0), (24, .iload_n 3, 0, 0, 0), (25, .iload_n 1, 0, 0, 0), (26, .if_icmp .ge 20, 46, 0, 0), (29, .aload_n 0, 0, 0, 0), (30, .invokevirtual 177, 94, 1, 556), (33, .istore 4, 0, 0, 0), (35, .iload_n 2, 0, 0, 0), (36, .iload 4, 0, 0, 0), (38, .iadd, 0, 0, 0), (39, .istore_n 2, 0, 0, 0), (40, .iinc 3 1, 0, 0, 0), (43, .goto (-19), 24, 0, 0), (46, .iload_n 2, 0, 0, 0), (47, .ireturn, 0, 0, 0)]
/-- StackPolicyKernelModel.time()I -/
def pg_t96 : List (Nat × mm_E) := [(0, .aload_n 0, 0, 0, 0), (1, .getfield 105, 6, 9, 431), (4, .ireturn, 0, 0, 0)]
/-- StackPolicyKernelModel.ran(I)I -/
def pg_t97 : List (Nat × mm_E) := [(0, .iload_n 1, 0, 0, 0), (1, .ifCond .lt 17, 18, 0, 0), (4, .iload_n 1, 0, 0, 0), (5, .bipush 63, 0, 0, 0), (7, .if_icmp .gt 11, 18, 0, 0), (10, .iload_n 1, 0, 0, 0), (11, .aload_n 0, 0, 0, 0), (12, .getfield 171, 6, 33, 455), (15, .if_icmp .lt 7, 22, 0, 0), (18, .iconst (-1), 0, 0, 0), (19, .goto 19, 38, 0, 0), (22, .aload_n 0, 0, 0, 0), (23, .getfield 64, 6, 34, 456), (26, .aload_n 0, 0, 0, 0), (27, .getfield 171, 6, 33, 455), (30, .iconst 1, 0, 0, 0), (31, .isub, 0, 0, 0), (32, .iload_n 1, 0, 0, 0), (33, .isub, 0, 0, 0), (34, .bipush 63, 0, 0, 0), (36, .iand, 0, 0, 0), (37, .iaload, 0, 0, 0), (38, .ireturn, 0, 0, 0)]
/-- StackPolicyKernelModel.queued(I)I -/
def pg_t98 : List (Nat × mm_E) := [(0, .iload_n 1, 0, 0, 0), (1, .ifCond .ge 7, 8, 0, 0), (4, .iconst (-1), 0, 0, 0), (5, .goto 8, 13, 0, 0), (8, .aload_n 0, 0, 0, 0), (9, .iload_n 1, 0, 0, 0), (10, .invokevirtual 133, 85, 2, 562), (13, .istore_n 2, 0, 0, 0), (14, .iload_n 2, 0, 0, 0), (15, .ifCond .ge 7, 22, 0, 0), (18, .iconst 0, 0, 0, 0), (19, .goto 16, 35, 0, 0), (22, .iload_n 2, 0, 0, 0), (23, .bipush 6, 0, 0, 0), (25, .if_icmp .ne 7, 32, 0, 0), (28, .iconst 1, 0, 0, 0), (29, .goto 6, 35, 0, 0), (32, .iconst 2, 0, 0, 0), (33, .iload_n 2, 0, 0, 0), (34, .iadd, 0, 0, 0), (35, .ireturn, 0, 0, 0)]
/-- StackPolicyKernelModel.job(II)I -/
def pg_t99 : List (Nat × mm_E) := [(0, .aload_n 0, 0, 0, 0), (1, .iload_n 1, 0, 0, 0), (2, .invokevirtual 79, 71, 2, 503), (5, .ifCond .eq 21, 26, 0, 0), (8, .aload_n 0, 0, 0, 0), (9, .getfield 34, 6, 18, 440), (12, .iload_n 1, 0, 0, 0), (13, .iaload, 0, 0, 0), (14, .ifCond .eq 12, 26, 0, 0), (17, .iload_n 2, 0, 0, 0), (18, .ifCond .lt 8, 26, 0, 0), (21, .iload_n 2, 0, 0, 0), (22, .iconst 3, 0, 0, 0), (23, .if_icmp .le 5, 28, 0, 0), (26, .iconst (-1), 0, 0, 0), (27, .ireturn, 0, 0, 0), (28, .iload_n 2, 0, 0, 0), (29, .ifCond .ne 19, 48, 0, 0), (32, .aload_n 0, 0, 0, 0), (33, .getfield 40, 6, 20, 442), (36, .iload_n 1, 0, 0, 0), (37, .iaload, 0, 0, 0), (38, .aload_n 0, 0, 0, 0), (39, .getfield 43, 6, 21, 443), (42, .iload_n 1, 0, 0, 0), (43, .iaload, 0, 0, 0), (44, .isub, 0, 0, 0), (45, .goto 44, 89, 0, 0), (48, .iload_n 2, 0, 0, 0), (49, .iconst 1, 0, 0, 0), (50, .if_icmp .ne 19, 69, 0, 0), (53, .aload_n 0, 0, 0, 0), (54, .getfield 37, 6, 19, 441), (57, .iload_n 1, 0, 0, 0), (58, .iaload, 0, 0, 0), (59, .aload_n 0, 0, 0, 0), (60, .getfield 13, 6, 2, 424), (63, .iload_n 1, 0, 0, 0), (64, .iaload, 0, 0, 0), (65, .iadd, 0, 0, 0), (66, .goto 23, 89, 0, 0), (69, .iload_n 2, 0, 0, 0), (70, .iconst 2, 0, 0, 0), (71, .if_icmp .ne 12, 83, 0, 0), (74, .aload_n 0, 0, 0, 0), (75, .getfield 52, 6, 24, 446), (78, .iload_n 1, 0, 0, 0), (79, .iaload, 0, 0, 0), (80, .goto 9, 89, 0, 0), (83, .aload_n 0, 0, 0, 0), (84, .getfield 46, 6, 22, 444), (87, .iload_n 1, 0, 0, 0), (88, .iaload, 0, 0, 0), (89, .ireturn, 0, 0, 0)]
/-- StackPolicyKernelModel.misses(I)I -/
def pg_t100 : List (Nat × mm_E) := [(0, .aload_n 0, 0, 0, 0), (1, .iload_n 1, 0, 0, 0), (2, .invokevirtual 79, 71, 2, 503), (5, .ifCond .eq 12, 17, 0, 0), (8, .aload_n 0, 0, 0, 0), (9, .getfield 58, 6, 26, 448), (12, .iload_n 1, 0, 0, 0), (13, .iaload, 0, 0, 0), (14, .goto 4, 18, 0, 0), (17, .iconst (-1), 0, 0, 0), (18, .ireturn, 0, 0, 0)]
/-- StackPolicyKernelModel.worst(I)I -/
def pg_t101 : List (Nat × mm_E) := [(0, .aload_n 0, 0, 0, 0), (1, .iload_n 1, 0, 0, 0), (2, .invokevirtual 79, 71, 2, 503), (5, .ifCond .eq 12, 17, 0, 0), (8, .aload_n 0, 0, 0, 0), (9, .getfield 61, 6, 27, 449), (12, .iload_n 1, 0, 0, 0), (13, .iaload, 0, 0, 0), (14, .goto 4, 18, 0, 0), (17, .iconst (-1), 0, 0, 0), (18, .ireturn, 0, 0, 0)]
/-- StackPolicyKernelModel.serverFigure(I)I -/
def pg_t102 : List (Nat × mm_E) := [(0, .aload_n 0, 0, 0, 0), (1, .getfield 83, 6, 10, 432), (4, .ifCond .eq 12, 16, 0, 0), (7, .iload_n 1, 0, 0, 0), (8, .ifCond .lt 8, 16, 0, 0), (11, .iload_n 1, 0, 0, 0), (12, .iconst 5, 0, 0, 0), (13, .if_icmp .le 5, 18, 0, 0), (16, .iconst (-1), 0, 0, 0), (17, .ireturn, 0, 0, 0), (18, .iconst 0, 0, 0, 0), (19, .istore_n 2, 0, 0, 0), (20, .iconst 0, 0, 0, 0), (21, .istore_n 3, 0, 0, 0), (22, .iload_n 3, 0, 0, 0), (23, .aload_n 0, 0, 0, 0), (24, .getfield 111, 6, 14, 436), (27, .if_icmp .ge 18, 45, 0, 0), (30, .iload_n 2, 0, 0, 0), (31, .aload_n 0, 0, 0, 0), (32, .getfield 31, 6, 15, 437), (35, .iload_n 3, 0, 0, 0), (36, .iaload, 0, 0, 0), (37, .iadd, 0, 0, 0), (38, .istore_n 2, 0, 0, 0), (39, .iinc 3 1, 0, 0, 0), (42, .goto (-20), 22, 0, 0), (45, .iload_n 1, 0, 0, 0), (46, .ifCond .ne 10, 56, 0, 0), (49, .aload_n 0, 0, 0, 0), (50, .getfield 114, 6, 13, 435), (53, .goto 52, 105, 0, 0), (56, .iload_n 1, 0, 0, 0), (57, .iconst 1, 0, 0, 0), (58, .if_icmp .ne 10, 68, 0, 0), (61, .aload_n 0, 0, 0, 0), (62, .getfield 89, 6, 12, 434), (65, .goto 40, 105, 0, 0), (68, .iload_n 1, 0, 0, 0), (69, .iconst 2, 0, 0, 0), (70, .if_icmp .ne 10, 80, 0, 0), (73, .aload_n 0, 0, 0, 0), (74, .getfield 111, 6, 14, 436), (77, .goto 28, 105, 0, 0), (80, .iload_n 1, 0, 0, 0), (81, .iconst 3, 0, 0, 0), (82, .if_icmp .ne 7, 89, 0, 0), (85, .iload_n 2, 0, 0, 0), (86, .goto 19, 105, 0, 0), (89, .iload_n 1, 0, 0, 0), (90, .iconst 4, 0, 0, 0), (91, .if_icmp .ne 10, 101, 0, 0), (94, .aload_n 0, 0, 0, 0), (95, .getfield 143, 6, 16, 438), (98, .goto 7, 105, 0, 0), (101, .aload_n 0, 0, 0, 0), (102, .getfield 140, 6, 17, 439), (105, .ireturn, 0, 0, 0)]
/-- StackPolicyKernelModel.count(I)I -/
def pg_t103 : List (Nat × mm_E) := [(0, .iconst 0, 0, 0, 0), (1, .istore_n 2, 0, 0, 0), (2, .iconst 0, 0, 0, 0), (3, .istore_n 3, 0, 0, 0), (4, .iload_n 3, 0, 0, 0), (5, .aload_n 0, 0, 0, 0), (6, .getfield 71, 6, 0, 422), (9, .if_icmp .ge 31, 40, 0, 0), (12, .aload_n 0, 0, 0, 0), (13, .getfield 34, 6, 18, 440), (16, .iload_n 3, 0, 0, 0), (17, .iaload, 0, 0, 0), (18, .iconst 1, 0, 0, 0), (19, .if_icmp .ne 15, 34, 0, 0), (22, .aload_n 0, 0, 0, 0), (23, .getfield 43, 6, 21, 443), (26, .iload_n 3, 0, 0, 0), (27, .iaload, 0, 0, 0), (28, .ifCond .le 6, 34, 0, 0), (31, .iinc 2 1, 0, 0, 0), (34, .iinc 3 1, 0, 0, 0), (37, .goto (-33), 4, 0, 0), (40, .iload_n 1, 0, 0, 0), (41, .ifCond .ne 10, 51, 0, 0), (44, .aload_n 0, 0, 0, 0), (45, .getfield 168, 6, 31, 453), (48, .goto 37, 85, 0, 0), (51, .iload_n 1, 0, 0, 0), (52, .iconst 1, 0, 0, 0), (53, .if_icmp .ne 10, 63, 0, 0), (56, .aload_n 0, 0, 0, 0), (57, .getfield 174, 6, 32, 454), (60, .goto 25, 85, 0, 0), (63, .iload_n 1, 0, 0, 0), (64, .iconst 2, 0, 0, 0), (65, .if_icmp .ne 10, 75, 0, 0), (68, .aload_n 0, 0, 0, 0), (69, .getfield 156, 6, 30, 452), (72, .goto 13, 85, 0, 0), (75, .iload_n 1, 0, 0, 0), (76, .iconst 3, 0, 0, 0), (77, .if_icmp .ne 7, 84, 0, 0), (80, .iload_n 2, 0, 0, 0), (81, .goto 4, 85, 0, 0), (84, .iconst (-1), 0, 0, 0), (85, .ireturn, 0, 0, 0)]
/-- StackPolicyKernelLaw.law([I)Z -/
def pg_t104 : List (Nat × mm_E) := [(0, .new 7, 0, 0, 39), (3, .dup, 0, 0, 0), (4, .invokespecial 9, 32, 1, 41), (7, .astore_n 1, 0, 0, 0), (8, .new 10, 6, 0, 416), (11, .dup, 0, 0, 0), (12, .invokespecial 12, 68, 1, 418), (15, .astore_n 2, 0, 0, 0), (16, .iconst 0, 0, 0, 0), (17, .istore_n 3, 0, 0, 0), (18, .iload_n 3, 0, 0, 0), (19, .aload_n 0, 0, 0, 0), (20, .arraylength, 0, 0, 0), (21, .iconst 5, 0, 0, 0), (22, .isub, 0, 0, 0), (23, .if_icmp .gt 584, 607, 0, 0), (26, .aload_n 0, 0, 0, 0), (27, .iload_n 3, 0, 0, 0), (28, .iaload, 0, 0, 0), (29, .bipush 31, 0, 0, 0), (31, .iand, 0, 0, 0), (32, .tableswitch 569 0 18 #[92, 135, 188, 221, 234, 247, 270, 303, 326, 349, 362, 385, 408, 431, 444, 477, 500, 523, 546], 0, 92, 0), (124, .aload_n 1, 0, 0, 0), (125, .aload_n 0, 0, 0, 0), (126, .iload_n 3, 0, 0, 0), (127, .iconst 1, 0, 0, 0), (128, .iadd, 0, 0, 0), (129, .iaload, 0, 0, 0), (130, .aload_n 0, 0, 0, 0), (131, .iload_n 3, 0, 0, 0), (132, .iconst 2, 0, 0, 0), (133, .iadd, 0, 0, 0), (134, .iaload, 0, 0, 0), (135, .aload_n 0, 0, 0, 0), (136, .iload_n 3, 0, 0, 0), (137, .iconst 3, 0, 0, 0), (138, .iadd, 0, 0, 0), (139, .iaload, 0, 0, 0), (140, .invokevirtual 13, 33, 4, 109), (143, .aload_n 2, 0, 0, 0), (144, .aload_n 0, 0, 0, 0), (145, .iload_n 3, 0, 0, 0), (146, .iconst 1, 0, 0, 0), (147, .iadd, 0, 0, 0), (148, .iaload, 0, 0, 0), (149, .aload_n 0, 0, 0, 0), (150, .iload_n 3, 0, 0, 0), (151, .iconst 2, 0, 0, 0), (152, .iadd, 0, 0, 0), (153, .iaload, 0, 0, 0), (154, .aload_n 0, 0, 0, 0), (155, .iload_n 3, 0, 0, 0), (156, .iconst 3, 0, 0, 0), (157, .iadd, 0, 0, 0), (158, .iaload, 0, 0, 0), (159, .invokevirtual 17, 70, 4, 492), (162, .if_icmp .eq 439, 601, 0, 0), (165, .iconst 0, 0, 0, 0), (166, .ireturn, 0, 0, 0), (167, .aload_n 1, 0, 0, 0), (168, .aload_n 0, 0, 0, 0), (169, .iload_n 3, 0, 0, 0), (170, .iconst 1, 0, 0, 0), (171, .iadd, 0, 0, 0), (172, .iaload, 0, 0, 0), (173, .aload_n 0, 0, 0, 0), (174, .iload_n 3, 0, 0, 0), (175, .iconst 2, 0, 0, 0), (176, .iadd, 0, 0, 0), (177, .iaload, 0, 0, 0), (178, .aload_n 0, 0, 0, 0), (179, .iload_n 3, 0, 0, 0), (180, .iconst 3, 0, 0, 0), (181, .iadd, 0, 0, 0), (182, .iaload, 0, 0, 0), (183, .aload_n 0, 0, 0, 0), (184, .iload_n 3, 0, 0, 0), (185, .iconst 4, 0, 0, 0), (186, .iadd, 0, 0, 0), (187, .iaload, 0, 0, 0), (188, .invokevirtual 18, 34, 5, 168), (191, .aload_n 2, 0, 0, 0), (192, .aload_n 0, 0, 0, 0), (193, .iload_n 3, 0, 0, 0), (194, .iconst 1, 0, 0, 0), (195, .iadd, 0, 0, 0), (196, .iaload, 0, 0, 0), (197, .aload_n 0, 0, 0, 0), (198, .iload_n 3, 0, 0, 0), (199, .iconst 2, 0, 0, 0), (200, .iadd, 0, 0, 0), (201, .iaload, 0, 0, 0), (202, .aload_n 0, 0, 0, 0), (203, .iload_n 3, 0, 0, 0), (204, .iconst 3, 0, 0, 0), (205, .iadd, 0, 0, 0), (206, .iaload, 0, 0, 0), (207, .aload_n 0, 0, 0, 0), (208, .iload_n 3, 0, 0, 0), (209, .iconst 4, 0, 0, 0), (210, .iadd, 0, 0, 0), (211, .iaload, 0, 0, 0), (212, .invokevirtual 22, 72, 5, 499), (215, .if_icmp .eq 386, 601, 0, 0), (218, .iconst 0, 0, 0, 0), (219, .ireturn, 0, 0, 0), (220, .aload_n 1, 0, 0, 0), (221, .aload_n 0, 0, 0, 0), (222, .iload_n 3, 0, 0, 0), (223, .iconst 1, 0, 0, 0), (224, .iadd, 0, 0, 0), (225, .iaload, 0, 0, 0), (226, .aload_n 0, 0, 0, 0), (227, .iload_n 3, 0, 0, 0), (228, .iconst 2, 0, 0, 0), (229, .iadd, 0, 0, 0), (230, .iaload, 0, 0, 0), (231, .invokevirtual 23, 35, 3, 211), (234, .aload_n 2, 0, 0, 0), (235, .aload_n 0, 0, 0, 0), (236, .iload_n 3, 0, 0, 0), (237, .iconst 1, 0, 0, 0), (238, .iadd, 0, 0, 0), (239, .iaload, 0, 0, 0), (240, .aload_n 0, 0, 0, 0), (241, .iload_n 3, 0, 0, 0), (242, .iconst 2, 0, 0, 0), (243, .iadd, 0, 0, 0), (244, .iaload, 0, 0, 0), (245, .invokevirtual 27, 73, 3, 506), (248, .if_icmp .eq 353, 601, 0, 0), (251, .iconst 0, 0, 0, 0), (252, .ireturn, 0, 0, 0), (253, .aload_n 1, 0, 0, 0), (254, .invokevirtual 28, 36, 1, 219), (257, .aload_n 2, 0, 0, 0), (258, .invokevirtual 32, 74, 1, 510), (261, .if_icmp .eq 340, 601, 0, 0), (264, .iconst 0, 0, 0, 0), (265, .ireturn, 0, 0, 0), (266, .aload_n 1, 0, 0, 0), (267, .invokevirtual 33, 37, 1, 223), (270, .aload_n 2, 0, 0, 0), (271, .invokevirtual 37, 79, 1, 521), (274, .if_icmp .eq 327, 601, 0, 0), (277, .iconst 0, 0, 0, 0), (278, .ireturn, 0, 0, 0), (279, .aload_n 1, 0, 0, 0), (280, .aload_n 0, 0, 0, 0), (281, .iload_n 3, 0, 0, 0), (282, .iconst 1, 0, 0, 0), (283, .iadd, 0, 0, 0), (284, .iaload, 0, 0, 0), (285, .invokevirtual 38, 38, 2, 242), (288, .aload_n 2, 0, 0, 0), (289, .aload_n 0, 0, 0, 0), (290, .iload_n 3, 0, 0, 0), (291, .iconst 1, 0, 0, 0), (292, .iadd, 0, 0, 0), (293, .iaload, 0, 0, 0), (294, .invokevirtual 42, 76, 2, 514), (297, .if_icmp .eq 304, 601, 0, 0), (300, .iconst 0, 0, 0, 0), (301, .ireturn, 0, 0, 0), (302, .aload_n 1, 0, 0, 0), (303, .aload_n 0, 0, 0, 0), (304, .iload_n 3, 0, 0, 0), (305, .iconst 1, 0, 0, 0), (306, .iadd, 0, 0, 0), (307, .iaload, 0, 0, 0), (308, .aload_n 0, 0, 0, 0), (309, .iload_n 3, 0, 0, 0), (310, .iconst 2, 0, 0, 0), (311, .iadd, 0, 0, 0), (312, .iaload, 0, 0, 0), (313, .invokevirtual 43, 39, 3, 246), (316, .aload_n 2, 0, 0, 0), (317, .aload_n 0, 0, 0, 0), (318, .iload_n 3, 0, 0, 0), (319, .iconst 1, 0, 0, 0), (320, .iadd, 0, 0, 0), (321, .iaload, 0, 0, 0), (322, .aload_n 0, 0, 0, 0), (323, .iload_n 3, 0, 0, 0), (324, .iconst 2, 0, 0, 0), (325, .iadd, 0, 0, 0), (326, .iaload, 0, 0, 0), (327, .invokevirtual 47, 80, 3, 532), (330, .if_icmp .eq 271, 601, 0, 0), (333, .iconst 0, 0, 0, 0), (334, .ireturn, 0, 0, 0), (335, .aload_n 1, 0, 0, 0), (336, .aload_n 0, 0, 0, 0), (337, .iload_n 3, 0, 0, 0), (338, .iconst 1, 0, 0, 0), (339, .iadd, 0, 0, 0), (340, .iaload, 0, 0, 0), (341, .invokevirtual 48, 40, 2, 262), (344, .aload_n 2, 0, 0, 0), (345, .aload_n 0, 0, 0, 0), (346, .iload_n 3, 0, 0, 0), (347, .iconst 1, 0, 0, 0), (348, .iadd, 0, 0, 0), (349, .iaload, 0, 0, 0), (350, .invokevirtual 52, 81, 2, 536), (353, .if_icmp .eq 248, 601, 0, 0), (356, .iconst 0, 0, 0, 0), (357, .ireturn, 0, 0, 0), (358, .aload_n 1, 0, 0, 0), (359, .aload_n 0, 0, 0, 0), (360, .iload_n 3, 0, 0, 0), (361, .iconst 1, 0, 0, 0), (362, .iadd, 0, 0, 0), (363, .iaload, 0, 0, 0), (364, .invokevirtual 53, 41, 2, 274), (367, .aload_n 2, 0, 0, 0), (368, .aload_n 0, 0, 0, 0), (369, .iload_n 3, 0, 0, 0), (370, .iconst 1, 0, 0, 0), (371, .iadd, 0, 0, 0), (372, .iaload, 0, 0, 0), (373, .invokevirtual 56, 95, 2, 552), (376, .if_icmp .eq 225, 601, 0, 0), (379, .iconst 0, 0, 0, 0), (380, .ireturn, 0, 0, 0), (381, .aload_n 1, 0, 0, 0), (382, .invokevirtual 57, 42, 1, 353), (385, .aload_n 2, 0, 0, 0), (386, .invokevirtual 60, 96, 1, 587), (389, .if_icmp .eq 212, 601, 0, 0), (392, .iconst 0, 0, 0, 0), (393, .ireturn, 0, 0, 0), (394, .aload_n 1, 0, 0, 0), (395, .aload_n 0, 0, 0, 0), (396, .iload_n 3, 0, 0, 0), (397, .iconst 1, 0, 0, 0), (398, .iadd, 0, 0, 0), (399, .iaload, 0, 0, 0), (400, .invokevirtual 61, 43, 2, 357), (403, .aload_n 2, 0, 0, 0), (404, .aload_n 0, 0, 0, 0), (405, .iload_n 3, 0, 0, 0), (406, .iconst 1, 0, 0, 0), (407, .iadd, 0, 0, 0), (408, .iaload, 0, 0, 0), (409, .invokevirtual 64, 97, 2, 591), (412, .if_icmp .eq 189, 601, 0, 0), (415, .iconst 0, 0, 0, 0), (416, .ireturn, 0, 0, 0), (417, .aload_n 1, 0, 0, 0), (418, .aload_n 0, 0, 0, 0), (419, .iload_n 3, 0, 0, 0), (420, .iconst 1, 0, 0, 0), (421, .iadd, 0, 0, 0), (422, .iaload, 0, 0, 0), (423, .invokevirtual 65, 44, 2, 362), (426, .aload_n 2, 0, 0, 0), (427, .aload_n 0, 0, 0, 0), (428, .iload_n 3, 0, 0, 0), (429, .iconst 1, 0, 0, 0), (430, .iadd, 0, 0, 0), (431, .iaload, 0, 0, 0), (432, .invokevirtual 68, 98, 2, 595), (435, .if_icmp .eq 166, 601, 0, 0), (438, .iconst 0, 0, 0, 0), (439, .ireturn, 0, 0, 0), (440, .aload_n 1, 0, 0, 0), (441, .aload_n 0, 0, 0, 0), (442, .iload_n 3, 0, 0, 0), (443, .iconst 1, 0, 0, 0), (444, .iadd, 0, 0, 0), (445, .iaload, 0, 0, 0), (446, .invokevirtual 69, 45, 2, 369), (449, .aload_n 2, 0, 0, 0), (450, .aload_n 0, 0, 0, 0), (451, .iload_n 3, 0, 0, 0), (452, .iconst 1, 0, 0, 0), (453, .iadd, 0, 0, 0), (454, .iaload, 0, 0, 0), (455, .invokevirtual 72, 88, 2, 540), (458, .if_icmp .eq 143, 601, 0, 0), (461, .iconst 0, 0, 0, 0), (462, .ireturn, 0, 0, 0), (463, .aload_n 1, 0, 0, 0), (464, .invokevirtual 73, 46, 1, 377), (467, .aload_n 2, 0, 0, 0), (468, .invokevirtual 76, 89, 1, 547), (471, .if_icmp .eq 130, 601, 0, 0), (474, .iconst 0, 0, 0, 0), (475, .ireturn, 0, 0, 0), (476, .aload_n 1, 0, 0, 0), (477, .aload_n 0, 0, 0, 0), (478, .iload_n 3, 0, 0, 0), (479, .iconst 1, 0, 0, 0), (480, .iadd, 0, 0, 0), (481, .iaload, 0, 0, 0), (482, .aload_n 0, 0, 0, 0), (483, .iload_n 3, 0, 0, 0), (484, .iconst 2, 0, 0, 0), (485, .iadd, 0, 0, 0), (486, .iaload, 0, 0, 0), (487, .invokevirtual 77, 47, 3, 381), (490, .aload_n 2, 0, 0, 0), (491, .aload_n 0, 0, 0, 0), (492, .iload_n 3, 0, 0, 0), (493, .iconst 1, 0, 0, 0), (494, .iadd, 0, 0, 0), (495, .iaload, 0, 0, 0), (496, .aload_n 0, 0, 0, 0), (497, .iload_n 3, 0, 0, 0), (498, .iconst 2, 0, 0, 0), (499, .iadd, 0, 0, 0), (500, .iaload, 0, 0, 0), (501, .invokevirtual 80, 99, 3, 599), (504, .if_icmp .eq 97, 601, 0, 0), (507, .iconst 0, 0, 0, 0), (508, .ireturn, 0, 0, 0), (509, .aload_n 1, 0, 0, 0), (510, .aload_n 0, 0, 0, 0), (511, .iload_n 3, 0, 0, 0), (512, .iconst 1, 0, 0, 0), (513, .iadd, 0, 0, 0), (514, .iaload, 0, 0, 0), (515, .invokevirtual 81, 48, 2, 389), (518, .aload_n 2, 0, 0, 0), (519, .aload_n 0, 0, 0, 0), (520, .iload_n 3, 0, 0, 0), (521, .iconst 1, 0, 0, 0), (522, .iadd, 0, 0, 0), (523, .iaload, 0, 0, 0), (524, .invokevirtual 84, 100, 2, 603), (527, .if_icmp .eq 74, 601, 0, 0), (530, .iconst 0, 0, 0, 0), (531, .ireturn, 0, 0, 0), (532, .aload_n 1, 0, 0, 0), (533, .aload_n 0, 0, 0, 0), (534, .iload_n 3, 0, 0, 0), (535, .iconst 1, 0, 0, 0), (536, .iadd, 0, 0, 0), (537, .iaload, 0, 0, 0), (538, .invokevirtual 85, 49, 2, 393), (541, .aload_n 2, 0, 0, 0), (542, .aload_n 0, 0, 0, 0), (543, .iload_n 3, 0, 0, 0), (544, .iconst 1, 0, 0, 0), (545, .iadd, 0, 0, 0), (546, .iaload, 0, 0, 0), (547, .invokevirtual 88, 101, 2, 607), (550, .if_icmp .eq 51, 601, 0, 0), (553, .iconst 0, 0, 0, 0), (554, .ireturn, 0, 0, 0), (555, .aload_n 1, 0, 0, 0), (556, .aload_n 0, 0, 0, 0), (557, .iload_n 3, 0, 0, 0), (558, .iconst 1, 0, 0, 0), (559, .iadd, 0, 0, 0), (560, .iaload, 0, 0, 0), (561, .invokevirtual 89, 50, 2, 397), (564, .aload_n 2, 0, 0, 0), (565, .aload_n 0, 0, 0, 0), (566, .iload_n 3, 0, 0, 0), (567, .iconst 1, 0, 0, 0), (568, .iadd, 0, 0, 0), (569, .iaload, 0, 0, 0), (570, .invokevirtual 92, 102, 2, 611), (573, .if_icmp .eq 28, 601, 0, 0), (576, .iconst 0, 0, 0, 0), (577, .ireturn, 0, 0, 0), (578, .aload_n 1, 0, 0, 0), (579, .aload_n 0, 0, 0, 0), (580, .iload_n 3, 0, 0, 0), (581, .iconst 1, 0, 0, 0), (582, .iadd, 0, 0, 0), (583, .iaload, 0, 0, 0), (584, .invokevirtual 93, 51, 2, 409), (587, .aload_n 2, 0, 0, 0), (588, .aload_n 0, 0, 0, 0), (589, .iload_n 3, 0, 0, 0), (590, .iconst 1, 0, 0, 0), (591, .iadd, 0, 0, 0), (592, .iaload, 0, 0, 0), (593, .invokevirtual 96, 103, 2, 615), (596, .if_icmp .eq 5, 601, 0, 0), (599, .iconst 0, 0, 0, 0), (600, .ireturn, 0, 0, 0), (601, .iinc 3 5, 0, 0, 0), (604, .goto (-586), 18, 0, 0), (607, .iconst 1, 0, 0, 0), (608, .ireturn, 0, 0, 0)]
def pg_ls : List (List (Nat × mm_E)) := [pg_t0, pg_t1, pg_t2, pg_t3, pg_t4, pg_t5, pg_t6, pg_t7, pg_t8, pg_t9, pg_t10, pg_t11, pg_t12, pg_t13, pg_t14, pg_t15, pg_t16, pg_t17, pg_t18, pg_t19, pg_t20, pg_t21, pg_t22, pg_t23, pg_t24, pg_t25, pg_t26, pg_t27, pg_t28, pg_t29, pg_t30, pg_t31, pg_t32, pg_t33, pg_t34, pg_t35, pg_t36, pg_t37, pg_t38, pg_t39, pg_t40, pg_t41, pg_t42, pg_t43, pg_t44, pg_t45, pg_t46, pg_t47, pg_t48, pg_t49, pg_t50, pg_t51, pg_t52, pg_t53, pg_t54, pg_t55, pg_t56, pg_t57, pg_t58, pg_t59, pg_t60, pg_t61, pg_t62, pg_t63, pg_t64, pg_t65, pg_t66, pg_t67, pg_t68, pg_t69, pg_t70, pg_t71, pg_t72, pg_t73, pg_t74, pg_t75, pg_t76, pg_t77, pg_t78, pg_t79, pg_t80, pg_t81, pg_t82, pg_t83, pg_t84, pg_t85, pg_t86, pg_t87, pg_t88, pg_t89, pg_t90, pg_t91, pg_t92, pg_t93, pg_t94, pg_t95, pg_t96, pg_t97, pg_t98, pg_t99, pg_t100, pg_t101, pg_t102, pg_t103, pg_t104]
def pg_tb (μ pc : Nat) : Option mm_E := (pg_ls.getD μ []).lookup pc
def pg_mx (μ : Nat) : Nat := ([4, 7, 2, 1, 1, 1, 1, 5, 3, 2, 4, 1, 5, 4, 5, 2, 3, 2, 4, 3, 2, 1, 1, 3, 3, 2, 1, 3, 2, 1, 2, 2, 1, 5, 6, 3, 1, 2, 2, 4, 2, 4, 1, 2, 3, 3, 1, 3, 2, 2, 2, 2, 2, 1, 3, 7, 4, 2, 2, 5, 4, 3, 3, 3, 5, 2, 4, 2, 1, 4, 4, 2, 8, 3, 2, 2, 5, 6, 7, 2, 3, 2, 2, 2, 5, 5, 4, 2, 3, 4, 5, 3, 4, 6, 5, 5, 1, 2, 3, 3, 2, 2, 4, 4, 4] : List Nat).getD μ 0
def pg_rb (μ : Nat) : Nat := ([0, 2, 2, 0, 2, 2, 2, 0, 0, 1, 0, 1, 2, 0, 1, 2, 2, 2, 1, 0, 0, 0, 2, 0, 2, 1, 0, 1, 1, 0, 0, 1, 0, 1, 2, 2, 2, 1, 1, 1, 2, 1, 1, 1, 1, 1, 1, 1, 1, 1, 1, 1, 2, 2, 1, 2, 1, 2, 1, 2, 1, 1, 1, 0, 1, 0, 0, 0, 0, 2, 1, 2, 2, 2, 2, 1, 1, 1, 2, 1, 1, 2, 2, 1, 2, 1, 2, 2, 1, 1, 1, 1, 0, 1, 1, 1, 1, 1, 1, 1, 1, 1, 1, 1, 2] : List Nat).getD μ 0
def pg_rc (μ : Nat) : Nat := ([4, 4, 4, 5, 5, 5, 5, 5, 5, 5, 3, 3, 3, 3, 3, 3, 3, 3, 3, 3, 3, 1, 1, 1, 1, 1, 1, 1, 1, 2, 2, 2, 0, 0, 0, 0, 0, 0, 0, 0, 0, 0, 0, 0, 0, 0, 0, 0, 0, 0, 0, 0, 0, 0, 0, 0, 0, 0, 0, 0, 0, 0, 0, 0, 0, 0, 0, 0, 6, 6, 6, 6, 6, 6, 6, 6, 6, 6, 6, 6, 6, 6, 6, 6, 6, 6, 6, 6, 6, 6, 6, 6, 6, 6, 6, 6, 6, 6, 6, 6, 6, 6, 6, 6, 0] : List Nat).getD μ 0
def pg_km (μ : Nat) : Nat × Nat := ([(2, 4), (1, 4), (1, 2), (3, 1), (1, 1), (1, 1), (1, 1), (1, 4), (1, 3), (1, 2), (2, 4), (1, 1), (1, 4), (1, 4), (1, 3), (1, 2), (1, 2), (1, 1), (1, 2), (1, 1), (1, 2), (3, 1), (1, 1), (1, 3), (1, 3), (1, 2), (1, 1), (1, 1), (1, 2), (3, 1), (1, 2), (1, 2), (2, 1), (1, 4), (1, 5), (1, 3), (1, 1), (1, 1), (1, 2), (1, 3), (1, 2), (1, 2), (1, 1), (1, 2), (1, 2), (1, 2), (1, 1), (1, 3), (1, 2), (1, 2), (1, 2), (1, 2), (1, 2), (0, 1), (1, 1), (1, 2), (1, 2), (1, 2), (1, 2), (1, 3), (1, 2), (1, 1), (1, 1), (1, 1), (1, 2), (1, 2), (1, 2), (1, 1), (2, 1), (0, 4), (1, 4), (1, 2), (1, 5), (1, 3), (1, 1), (1, 2), (1, 2), (1, 2), (1, 2), (1, 1), (1, 3), (1, 2), (1, 2), (1, 2), (1, 3), (1, 2), (1, 3), (1, 2), (1, 2), (1, 1), (1, 1), (1, 1), (1, 3), (1, 2), (1, 1), (1, 2), (1, 1), (1, 2), (1, 2), (1, 3), (1, 2), (1, 2), (1, 2), (1, 2), (0, 1)] : List (Nat × Nat)).getD μ (0, 0)
def pg_sl (ci : Nat) : Nat := ([8, 9, 4, 10, 3, 7, 35] : List Nat).getD ci 0
def pg_fts : List (List FieldType) := [[.array (.object "StackPolicyKernel$Task"), .array .int, .object "StackPolicyKernel$Server", .object "StackPolicyKernel$Trace", .int, .boolean, .int, .int], [.array .int, .int, .int, .int, .int, .int, .int, .int, .int], [.array .int, .int, .int, .int], [.int, .int, .int, .array (.object "StackPolicyKernel$Section"), .object "StackPolicyKernel$Job", .int, .int, .int, .int, .int], [.int, .int, .int], [.array .int, .int, .int, .int, .int, .int, .int], [.int, .array .int, .array .int, .array .int, .array .int, .array .int, .array .int, .array .int, .boolean, .int, .int, .int, .int, .int, .int, .array .int, .int, .int, .array .int, .array .int, .array .int, .array .int, .array .int, .array .int, .array .int, .array .int, .array .int, .array .int, .int, .int, .int, .int, .int, .int, .array .int]]
def pg_ft (ci k : Nat) : FieldType := (pg_fts.getD ci []).getD k .int
def pg_pk (μ pc : Nat) (ls : List Value) (V : mm_V) : Nat :=
  if μ = 3 ∧ pc = 7 then sp_r (mm_ld ls 0) + 1 else
  if μ = 10 ∧ pc = 6 then sp_r (mm_ld ls 0) + 1 else
  if μ = 10 ∧ pc = 13 then sp_r (mm_ld ls 0) + 2 else
  if μ = 13 ∧ pc = 8 then sp_r (mm_ld ls 0) + 4 + sp_r (V (sp_r (mm_ld ls 0)) 5) else
  if μ = 21 ∧ pc = 7 then 4 else
  if μ = 29 ∧ pc = 7 then 6 else
  if μ = 32 ∧ pc = 7 then 1 else
  if μ = 32 ∧ pc = 15 then 2 else
  if μ = 32 ∧ pc = 21 then 3 else
  if μ = 32 ∧ pc = 32 then 5 else
  if μ = 33 ∧ pc = 59 then 32 + 8 * sp_r (V 0 4) else
  if μ = 68 ∧ pc = 7 then 9 else
  if μ = 68 ∧ pc = 15 then 10 else
  if μ = 68 ∧ pc = 23 then 11 else
  if μ = 68 ∧ pc = 31 then 12 else
  if μ = 68 ∧ pc = 39 then 13 else
  if μ = 68 ∧ pc = 47 then 14 else
  if μ = 68 ∧ pc = 55 then 15 else
  if μ = 68 ∧ pc = 63 then 16 else
  if μ = 68 ∧ pc = 71 then 17 else
  if μ = 68 ∧ pc = 79 then 18 else
  if μ = 68 ∧ pc = 87 then 19 else
  if μ = 68 ∧ pc = 95 then 20 else
  if μ = 68 ∧ pc = 103 then 21 else
  if μ = 68 ∧ pc = 111 then 22 else
  if μ = 68 ∧ pc = 119 then 23 else
  if μ = 68 ∧ pc = 128 then 24 else
  if μ = 68 ∧ pc = 136 then 25 else
  if μ = 68 ∧ pc = 144 then 26 else
  if μ = 68 ∧ pc = 152 then 27 else
  if μ = 104 ∧ pc = 0 then 0 else
  if μ = 104 ∧ pc = 8 then 8 else
  0
def pg_G : mm_G := (pg_tb, pg_mx, pg_ft, pg_sl, pg_pk, pg_rb, pg_rc)
def pg_F0 : u_T := fun k => match k with
  | 0 => ("StackPolicyKernel", "tasks", "[LStackPolicyKernel$Task;", true)
  | 1 => ("StackPolicyKernel", "ceilings", "[I", true)
  | 2 => ("StackPolicyKernel", "theServer", "LStackPolicyKernel$Server;", true)
  | 3 => ("StackPolicyKernel", "trace", "LStackPolicyKernel$Trace;", true)
  | 4 => ("StackPolicyKernel", "taskCount", "I", false)
  | 5 => ("StackPolicyKernel", "started", "Z", false)
  | 6 => ("StackPolicyKernel", "releasedJobs", "I", false)
  | _ => ("StackPolicyKernel", "endedJobs", "I", false)
def pg_F1 : u_T := fun k => match k with
  | 0 => ("StackPolicyKernel$Server", "needs", "[I", true)
  | 1 => ("StackPolicyKernel$Server", "oldest", "I", false)
  | 2 => ("StackPolicyKernel$Server", "waiting", "I", false)
  | 3 => ("StackPolicyKernel$Server", "size", "I", false)
  | 4 => ("StackPolicyKernel$Server", "period", "I", false)
  | 5 => ("StackPolicyKernel$Server", "budget", "I", false)
  | 6 => ("StackPolicyKernel$Server", "deadline", "I", false)
  | 7 => ("StackPolicyKernel$Server", "usedUp", "I", false)
  | _ => ("StackPolicyKernel$Server", "finished", "I", false)
def pg_F2 : u_T := fun k => match k with
  | 0 => ("StackPolicyKernel$Trace", "codes", "[I", true)
  | 1 => ("StackPolicyKernel$Trace", "ticks", "I", false)
  | 2 => ("StackPolicyKernel$Trace", "idleTicks", "I", false)
  | _ => ("StackPolicyKernel$Trace", "changes", "I", false)
def pg_F3 : u_T := fun k => match k with
  | 0 => ("StackPolicyKernel$Task", "period", "I", true)
  | 1 => ("StackPolicyKernel$Task", "span", "I", true)
  | 2 => ("StackPolicyKernel$Task", "cost", "I", true)
  | 3 => ("StackPolicyKernel$Task", "sections", "[LStackPolicyKernel$Section;", true)
  | 4 => ("StackPolicyKernel$Task", "job", "LStackPolicyKernel$Job;", true)
  | 5 => ("StackPolicyKernel$Task", "sectionCount", "I", false)
  | 6 => ("StackPolicyKernel$Task", "missedJobs", "I", false)
  | 7 => ("StackPolicyKernel$Task", "longestResponse", "I", false)
  | 8 => ("StackPolicyKernel$Task", "spells", "I", false)
  | _ => ("StackPolicyKernel$Task", "tickSpell", "I", false)
def pg_F4 : u_T := fun k => match k with
  | 0 => ("StackPolicyKernel$Section", "resource", "I", true)
  | 1 => ("StackPolicyKernel$Section", "from", "I", true)
  | _ => ("StackPolicyKernel$Section", "to", "I", true)
def pg_F5 : u_T := fun k => match k with
  | 0 => ("StackPolicyKernel$Job", "countedSpells", "[I", true)
  | 1 => ("StackPolicyKernel$Job", "amount", "I", false)
  | 2 => ("StackPolicyKernel$Job", "ticksRun", "I", false)
  | 3 => ("StackPolicyKernel$Job", "releaseTime", "I", false)
  | 4 => ("StackPolicyKernel$Job", "deadline", "I", false)
  | 5 => ("StackPolicyKernel$Job", "blockings", "I", false)
  | _ => ("StackPolicyKernel$Job", "blockedTicks", "I", false)
def pg_F6 : u_T := fun k => match k with
  | 0 => ("StackPolicyKernelModel", "tasks", "I", false)
  | 1 => ("StackPolicyKernelModel", "period", "[I", true)
  | 2 => ("StackPolicyKernelModel", "span", "[I", true)
  | 3 => ("StackPolicyKernelModel", "cost", "[I", true)
  | 4 => ("StackPolicyKernelModel", "parts", "[I", true)
  | 5 => ("StackPolicyKernelModel", "resource", "[I", true)
  | 6 => ("StackPolicyKernelModel", "from", "[I", true)
  | 7 => ("StackPolicyKernelModel", "to", "[I", true)
  | 8 => ("StackPolicyKernelModel", "started", "Z", false)
  | 9 => ("StackPolicyKernelModel", "now", "I", false)
  | 10 => ("StackPolicyKernelModel", "size", "I", false)
  | 11 => ("StackPolicyKernelModel", "cycle", "I", false)
  | 12 => ("StackPolicyKernelModel", "budget", "I", false)
  | 13 => ("StackPolicyKernelModel", "due", "I", false)
  | 14 => ("StackPolicyKernelModel", "waits", "I", false)
  | 15 => ("StackPolicyKernelModel", "need", "[I", true)
  | 16 => ("StackPolicyKernelModel", "usedUp", "I", false)
  | 17 => ("StackPolicyKernelModel", "served", "I", false)
  | 18 => ("StackPolicyKernelModel", "phase", "[I", true)
  | 19 => ("StackPolicyKernelModel", "since", "[I", true)
  | 20 => ("StackPolicyKernelModel", "amount", "[I", true)
  | 21 => ("StackPolicyKernelModel", "done", "[I", true)
  | 22 => ("StackPolicyKernelModel", "stopped", "[I", true)
  | 23 => ("StackPolicyKernelModel", "inSpell", "[I", true)
  | 24 => ("StackPolicyKernelModel", "spellCount", "[I", true)
  | 25 => ("StackPolicyKernelModel", "spell", "[I", true)
  | 26 => ("StackPolicyKernelModel", "missed", "[I", true)
  | 27 => ("StackPolicyKernelModel", "longest", "[I", true)
  | 28 => ("StackPolicyKernelModel", "spells", "I", false)
  | 29 => ("StackPolicyKernelModel", "jobs", "I", false)
  | 30 => ("StackPolicyKernelModel", "ended", "I", false)
  | 31 => ("StackPolicyKernelModel", "idle", "I", false)
  | 32 => ("StackPolicyKernelModel", "changes", "I", false)
  | 33 => ("StackPolicyKernelModel", "ticks", "I", false)
  | _ => ("StackPolicyKernelModel", "codes", "[I", true)
def pg_ck (ci : Nat) : vw_C := ([("StackPolicyKernel", pg_F0, 8), ("StackPolicyKernel$Server", pg_F1, 9), ("StackPolicyKernel$Trace", pg_F2, 4), ("StackPolicyKernel$Task", pg_F3, 10), ("StackPolicyKernel$Section", pg_F4, 3), ("StackPolicyKernel$Job", pg_F5, 7), ("StackPolicyKernelModel", pg_F6, 35)] : List vw_C).getD ci ("", pg_F0, 0)
def pg_ek (kd : Nat) : Nat := if kd = 102 then 3 else 4

def pg_mb (μ : Nat) : ByteArray := ([prog_3_method_1_code, prog_3_method_2_code, prog_3_method_3_code, prog_2_method_1_code, prog_2_method_2_code, prog_2_method_3_code, prog_2_method_4_code, prog_2_method_5_code, prog_2_method_6_code, prog_2_method_7_code, prog_5_method_1_code, prog_5_method_2_code, prog_5_method_3_code, prog_5_method_4_code, prog_5_method_5_code, prog_5_method_6_code, prog_5_method_7_code, prog_5_method_8_code, prog_5_method_9_code, prog_5_method_10_code, prog_5_method_11_code, prog_4_method_1_code, prog_4_method_2_code, prog_4_method_3_code, prog_4_method_4_code, prog_4_method_5_code, prog_4_method_6_code, prog_4_method_7_code, prog_4_method_8_code, prog_6_method_1_code, prog_6_method_2_code, prog_6_method_3_code, prog_1_method_1_code, prog_1_method_2_code, prog_1_method_3_code, prog_1_method_4_code, prog_1_method_5_code, prog_1_method_6_code, prog_1_method_7_code, prog_1_method_8_code, prog_1_method_9_code, prog_1_method_10_code, prog_1_method_11_code, prog_1_method_12_code, prog_1_method_13_code, prog_1_method_14_code, prog_1_method_15_code, prog_1_method_16_code, prog_1_method_17_code, prog_1_method_18_code, prog_1_method_19_code, prog_1_method_20_code, prog_1_method_21_code, prog_1_method_22_code, prog_1_method_23_code, prog_1_method_24_code, prog_1_method_25_code, prog_1_method_26_code, prog_1_method_27_code, prog_1_method_28_code, prog_1_method_29_code, prog_1_method_30_code, prog_1_method_31_code, prog_1_method_32_code, prog_1_method_33_code, prog_1_method_34_code, prog_1_method_35_code, prog_1_method_36_code, prog_8_method_1_code, prog_8_method_2_code, prog_8_method_3_code, prog_8_method_4_code, prog_8_method_5_code, prog_8_method_6_code, prog_8_method_7_code, prog_8_method_8_code, prog_8_method_9_code, prog_8_method_10_code, prog_8_method_11_code, prog_8_method_12_code, prog_8_method_13_code, prog_8_method_14_code, prog_8_method_15_code, prog_8_method_16_code, prog_8_method_17_code, prog_8_method_18_code, prog_8_method_19_code, prog_8_method_20_code, prog_8_method_21_code, prog_8_method_22_code, prog_8_method_23_code, prog_8_method_24_code, prog_8_method_25_code, prog_8_method_26_code, prog_8_method_27_code, prog_8_method_28_code, prog_8_method_29_code, prog_8_method_30_code, prog_8_method_31_code, prog_8_method_32_code, prog_8_method_33_code, prog_8_method_34_code, prog_8_method_35_code, prog_8_method_36_code, code] : List ByteArray).getD μ code
def pg_mn (μ : Nat) : MethodName := ([⟨"StackPolicyKernel$Section", "<init>", "(III)V"⟩, ⟨"StackPolicyKernel$Section", "agreesWith", "(III)Z"⟩, ⟨"StackPolicyKernel$Section", "isHeldAfter", "(I)Z"⟩, ⟨"StackPolicyKernel$Job", "<init>", "()V"⟩, ⟨"StackPolicyKernel$Job", "wasReleased", "()Z"⟩, ⟨"StackPolicyKernel$Job", "isPending", "()Z"⟩, ⟨"StackPolicyKernel$Job", "hasRun", "()Z"⟩, ⟨"StackPolicyKernel$Job", "begin", "(III)V"⟩, ⟨"StackPolicyKernel$Job", "noteBlocked", "(II)V"⟩, ⟨"StackPolicyKernel$Job", "figure", "(I)I"⟩, ⟨"StackPolicyKernel$Task", "<init>", "(III)V"⟩, ⟨"StackPolicyKernel$Task", "level", "()I"⟩, ⟨"StackPolicyKernel$Task", "allowsSection", "(III)Z"⟩, ⟨"StackPolicyKernel$Task", "addSection", "(III)V"⟩, ⟨"StackPolicyKernel$Task", "longestHold", "([II)I"⟩, ⟨"StackPolicyKernel$Task", "isHeld", "(LStackPolicyKernel$Section;)Z"⟩, ⟨"StackPolicyKernel$Task", "holds", "(I)Z"⟩, ⟨"StackPolicyKernel$Task", "holdsSomething", "()Z"⟩, ⟨"StackPolicyKernel$Task", "highestHeld", "([I)I"⟩, ⟨"StackPolicyKernel$Task", "runTick", "()V"⟩, ⟨"StackPolicyKernel$Task", "noteResponse", "(I)V"⟩, ⟨"StackPolicyKernel$Server", "<init>", "()V"⟩, ⟨"StackPolicyKernel$Server", "exists", "()Z"⟩, ⟨"StackPolicyKernel$Server", "setUp", "(II)V"⟩, ⟨"StackPolicyKernel$Server", "takeRequest", "(II)Z"⟩, ⟨"StackPolicyKernel$Server", "slot", "(I)I"⟩, ⟨"StackPolicyKernel$Server", "runTick", "()V"⟩, ⟨"StackPolicyKernel$Server", "neededTicks", "()I"⟩, ⟨"StackPolicyKernel$Server", "figure", "(I)I"⟩, ⟨"StackPolicyKernel$Trace", "<init>", "()V"⟩, ⟨"StackPolicyKernel$Trace", "note", "(I)V"⟩, ⟨"StackPolicyKernel$Trace", "codeBack", "(I)I"⟩, ⟨"StackPolicyKernel", "<init>", "()V"⟩, ⟨"StackPolicyKernel", "task", "(III)I"⟩, ⟨"StackPolicyKernel", "section", "(IIII)Z"⟩, ⟨"StackPolicyKernel", "server", "(II)Z"⟩, ⟨"StackPolicyKernel", "start", "()Z"⟩, ⟨"StackPolicyKernel", "verdict", "()I"⟩, ⟨"StackPolicyKernel", "ceiling", "(I)I"⟩, ⟨"StackPolicyKernel", "release", "(II)I"⟩, ⟨"StackPolicyKernel", "submit", "(I)Z"⟩, ⟨"StackPolicyKernel", "step", "(I)I"⟩, ⟨"StackPolicyKernel", "time", "()I"⟩, ⟨"StackPolicyKernel", "ran", "(I)I"⟩, ⟨"StackPolicyKernel", "queued", "(I)I"⟩, ⟨"StackPolicyKernel", "holder", "(I)I"⟩, ⟨"StackPolicyKernel", "systemCeiling", "()I"⟩, ⟨"StackPolicyKernel", "job", "(II)I"⟩, ⟨"StackPolicyKernel", "misses", "(I)I"⟩, ⟨"StackPolicyKernel", "worst", "(I)I"⟩, ⟨"StackPolicyKernel", "serverFigure", "(I)I"⟩, ⟨"StackPolicyKernel", "count", "(I)I"⟩, ⟨"StackPolicyKernel", "isTask", "(I)Z"⟩, ⟨"StackPolicyKernel", "isResource", "(I)Z"⟩, ⟨"StackPolicyKernel", "begunPendingJobs", "()I"⟩, ⟨"StackPolicyKernel", "passes", "(LStackPolicyKernel$Task;)Z"⟩, ⟨"StackPolicyKernel", "longestHoldAgainst", "(LStackPolicyKernel$Task;)I"⟩, ⟨"StackPolicyKernel", "isInOrder", "(I)Z"⟩, ⟨"StackPolicyKernel", "deadlineOf", "(I)I"⟩, ⟨"StackPolicyKernel", "comesBefore", "(II)Z"⟩, ⟨"StackPolicyKernel", "placeInOrder", "(I)I"⟩, ⟨"StackPolicyKernel", "firstInOrder", "()I"⟩, ⟨"StackPolicyKernel", "highestHeldCeiling", "()I"⟩, ⟨"StackPolicyKernel", "makeTick", "()V"⟩, ⟨"StackPolicyKernel", "chooseRunner", "(I)I"⟩, ⟨"StackPolicyKernel", "runJob", "(I)V"⟩, ⟨"StackPolicyKernel", "noteBlocked", "(I)V"⟩, ⟨"StackPolicyKernel", "noteMisses", "()V"⟩, ⟨"StackPolicyKernelModel", "<init>", "()V"⟩, ⟨"StackPolicyKernelModel", "rising", "(IIII)Z"⟩, ⟨"StackPolicyKernelModel", "task", "(III)I"⟩, ⟨"StackPolicyKernelModel", "isTask", "(I)Z"⟩, ⟨"StackPolicyKernelModel", "section", "(IIII)Z"⟩, ⟨"StackPolicyKernelModel", "server", "(II)Z"⟩, ⟨"StackPolicyKernelModel", "start", "()Z"⟩, ⟨"StackPolicyKernelModel", "level", "(I)I"⟩, ⟨"StackPolicyKernelModel", "ceiling", "(I)I"⟩, ⟨"StackPolicyKernelModel", "overhang", "(I)I"⟩, ⟨"StackPolicyKernelModel", "passes", "(I)Z"⟩, ⟨"StackPolicyKernelModel", "verdict", "()I"⟩, ⟨"StackPolicyKernelModel", "release", "(II)I"⟩, ⟨"StackPolicyKernelModel", "submit", "(I)Z"⟩, ⟨"StackPolicyKernelModel", "there", "(I)Z"⟩, ⟨"StackPolicyKernelModel", "deadline", "(I)I"⟩, ⟨"StackPolicyKernelModel", "earlier", "(II)Z"⟩, ⟨"StackPolicyKernelModel", "inOrder", "(I)I"⟩, ⟨"StackPolicyKernelModel", "holds", "(II)Z"⟩, ⟨"StackPolicyKernelModel", "holdsAny", "(I)Z"⟩, ⟨"StackPolicyKernelModel", "holder", "(I)I"⟩, ⟨"StackPolicyKernelModel", "systemCeiling", "()I"⟩, ⟨"StackPolicyKernelModel", "choice", "()I"⟩, ⟨"StackPolicyKernelModel", "serve", "()I"⟩, ⟨"StackPolicyKernelModel", "stop", "(II)V"⟩, ⟨"StackPolicyKernelModel", "work", "(I)I"⟩, ⟨"StackPolicyKernelModel", "tick", "()I"⟩, ⟨"StackPolicyKernelModel", "step", "(I)I"⟩, ⟨"StackPolicyKernelModel", "time", "()I"⟩, ⟨"StackPolicyKernelModel", "ran", "(I)I"⟩, ⟨"StackPolicyKernelModel", "queued", "(I)I"⟩, ⟨"StackPolicyKernelModel", "job", "(II)I"⟩, ⟨"StackPolicyKernelModel", "misses", "(I)I"⟩, ⟨"StackPolicyKernelModel", "worst", "(I)I"⟩, ⟨"StackPolicyKernelModel", "serverFigure", "(I)I"⟩, ⟨"StackPolicyKernelModel", "count", "(I)I"⟩, ⟨"StackPolicyKernelLaw", "law", "([I)Z"⟩] : List MethodName).getD μ ⟨"", "", ""⟩
def pg_mr (μ : Nat) : Option FieldType := ([none, some .boolean, some .boolean, none, some .boolean, some .boolean, some .boolean, none, none, some .int, none, some .int, some .boolean, none, some .int, some .boolean, some .boolean, some .boolean, some .int, none, none, none, some .boolean, none, some .boolean, some .int, none, some .int, some .int, none, none, some .int, none, some .int, some .boolean, some .boolean, some .boolean, some .int, some .int, some .int, some .boolean, some .int, some .int, some .int, some .int, some .int, some .int, some .int, some .int, some .int, some .int, some .int, some .boolean, some .boolean, some .int, some .boolean, some .int, some .boolean, some .int, some .boolean, some .int, some .int, some .int, none, some .int, none, none, none, none, some .boolean, some .int, some .boolean, some .boolean, some .boolean, some .boolean, some .int, some .int, some .int, some .boolean, some .int, some .int, some .boolean, some .boolean, some .int, some .boolean, some .int, some .boolean, some .boolean, some .int, some .int, some .int, some .int, none, some .int, some .int, some .int, some .int, some .int, some .int, some .int, some .int, some .int, some .int, some .int, some .boolean] : List (Option FieldType)).getD μ none
def pg_A0 : List Jvm.Cond := [.selects "StackPolicyKernel" ⟨"StackPolicyKernel", "isTask", "(I)Z"⟩ ⟨"StackPolicyKernel", "isTask", "(I)Z"⟩,
  .selects "StackPolicyKernel" ⟨"StackPolicyKernel", "passes", "(LStackPolicyKernel$Task;)Z"⟩ ⟨"StackPolicyKernel", "passes", "(LStackPolicyKernel$Task;)Z"⟩,
  .selects "StackPolicyKernel" ⟨"StackPolicyKernel", "longestHoldAgainst", "(LStackPolicyKernel$Task;)I"⟩ ⟨"StackPolicyKernel", "longestHoldAgainst", "(LStackPolicyKernel$Task;)I"⟩,
  .selects "StackPolicyKernel" ⟨"StackPolicyKernel", "makeTick", "()V"⟩ ⟨"StackPolicyKernel", "makeTick", "()V"⟩,
  .selects "StackPolicyKernel" ⟨"StackPolicyKernel", "firstInOrder", "()I"⟩ ⟨"StackPolicyKernel", "firstInOrder", "()I"⟩,
  .selects "StackPolicyKernel" ⟨"StackPolicyKernel", "isInOrder", "(I)Z"⟩ ⟨"StackPolicyKernel", "isInOrder", "(I)Z"⟩,
  .selects "StackPolicyKernel" ⟨"StackPolicyKernel", "comesBefore", "(II)Z"⟩ ⟨"StackPolicyKernel", "comesBefore", "(II)Z"⟩,
  .selects "StackPolicyKernel" ⟨"StackPolicyKernel", "deadlineOf", "(I)I"⟩ ⟨"StackPolicyKernel", "deadlineOf", "(I)I"⟩,
  .selects "StackPolicyKernel" ⟨"StackPolicyKernel", "chooseRunner", "(I)I"⟩ ⟨"StackPolicyKernel", "chooseRunner", "(I)I"⟩,
  .selects "StackPolicyKernel" ⟨"StackPolicyKernel", "highestHeldCeiling", "()I"⟩ ⟨"StackPolicyKernel", "highestHeldCeiling", "()I"⟩,
  .selects "StackPolicyKernel" ⟨"StackPolicyKernel", "runJob", "(I)V"⟩ ⟨"StackPolicyKernel", "runJob", "(I)V"⟩,
  .selects "StackPolicyKernel" ⟨"StackPolicyKernel", "noteBlocked", "(I)V"⟩ ⟨"StackPolicyKernel", "noteBlocked", "(I)V"⟩,
  .selects "StackPolicyKernel" ⟨"StackPolicyKernel", "noteMisses", "()V"⟩ ⟨"StackPolicyKernel", "noteMisses", "()V"⟩,
  .selects "StackPolicyKernel" ⟨"StackPolicyKernel", "placeInOrder", "(I)I"⟩ ⟨"StackPolicyKernel", "placeInOrder", "(I)I"⟩,
  .selects "StackPolicyKernel" ⟨"StackPolicyKernel", "begunPendingJobs", "()I"⟩ ⟨"StackPolicyKernel", "begunPendingJobs", "()I"⟩,
  .selects "StackPolicyKernelModel" ⟨"StackPolicyKernelModel", "isTask", "(I)Z"⟩ ⟨"StackPolicyKernelModel", "isTask", "(I)Z"⟩,
  .selects "StackPolicyKernelModel" ⟨"StackPolicyKernelModel", "level", "(I)I"⟩ ⟨"StackPolicyKernelModel", "level", "(I)I"⟩,
  .selects "StackPolicyKernelModel" ⟨"StackPolicyKernelModel", "passes", "(I)Z"⟩ ⟨"StackPolicyKernelModel", "passes", "(I)Z"⟩,
  .selects "StackPolicyKernelModel" ⟨"StackPolicyKernelModel", "overhang", "(I)I"⟩ ⟨"StackPolicyKernelModel", "overhang", "(I)I"⟩,
  .selects "StackPolicyKernelModel" ⟨"StackPolicyKernelModel", "holds", "(II)Z"⟩ ⟨"StackPolicyKernelModel", "holds", "(II)Z"⟩,
  .selects "StackPolicyKernelModel" ⟨"StackPolicyKernelModel", "tick", "()I"⟩ ⟨"StackPolicyKernelModel", "tick", "()I"⟩,
  .selects "StackPolicyKernelModel" ⟨"StackPolicyKernelModel", "choice", "()I"⟩ ⟨"StackPolicyKernelModel", "choice", "()I"⟩,
  .selects "StackPolicyKernelModel" ⟨"StackPolicyKernelModel", "inOrder", "(I)I"⟩ ⟨"StackPolicyKernelModel", "inOrder", "(I)I"⟩,
  .selects "StackPolicyKernelModel" ⟨"StackPolicyKernelModel", "there", "(I)Z"⟩ ⟨"StackPolicyKernelModel", "there", "(I)Z"⟩,
  .selects "StackPolicyKernelModel" ⟨"StackPolicyKernelModel", "earlier", "(II)Z"⟩ ⟨"StackPolicyKernelModel", "earlier", "(II)Z"⟩,
  .selects "StackPolicyKernelModel" ⟨"StackPolicyKernelModel", "deadline", "(I)I"⟩ ⟨"StackPolicyKernelModel", "deadline", "(I)I"⟩,
  .selects "StackPolicyKernelModel" ⟨"StackPolicyKernelModel", "serve", "()I"⟩ ⟨"StackPolicyKernelModel", "serve", "()I"⟩,
  .selects "StackPolicyKernelModel" ⟨"StackPolicyKernelModel", "work", "(I)I"⟩ ⟨"StackPolicyKernelModel", "work", "(I)I"⟩,
  .selects "StackPolicyKernelModel" ⟨"StackPolicyKernelModel", "holdsAny", "(I)Z"⟩ ⟨"StackPolicyKernelModel", "holdsAny", "(I)Z"⟩,
  .selects "StackPolicyKernelModel" ⟨"StackPolicyKernelModel", "stop", "(II)V"⟩ ⟨"StackPolicyKernelModel", "stop", "(II)V"⟩,
  .initialized "StackPolicyKernelLaw",
  .initialized "StackPolicyKernel",
  .initialized "StackPolicyKernel$Server",
  .initialized "StackPolicyKernel$Trace",
  .initialized "StackPolicyKernelModel",
  .initialized "StackPolicyKernel$Task",
  .initialized "StackPolicyKernel$Job",
  .initialized "StackPolicyKernel$Section",
  .initialized "java/lang/Math",
  .classLink "StackPolicyKernelLaw" 7 "StackPolicyKernel"]
def pg_A1 : List Jvm.Cond := [.instantiable "StackPolicyKernel" 8,
  .methodLink "StackPolicyKernelLaw" 9 ⟨"StackPolicyKernel", "<init>", "()V"⟩,
  .instanceMethod ⟨"StackPolicyKernel", "<init>", "()V"⟩,
  .code ⟨"StackPolicyKernel", "<init>", "()V"⟩ prog_1_method_1_code 1 (Option.none : Option Jvm.ClassFile.FieldType),
  .methodLink "StackPolicyKernel" 1 ⟨"java/lang/Object", "<init>", "()V"⟩,
  .instanceMethod ⟨"java/lang/Object", "<init>", "()V"⟩,
  .code ⟨"java/lang/Object", "<init>", "()V"⟩ object_method_1_code 1 (Option.none : Option Jvm.ClassFile.FieldType),
  .classLink "StackPolicyKernel" 9 "StackPolicyKernel$Task",
  .classLink "StackPolicyKernel" 19 "StackPolicyKernel$Server",
  .instantiable "StackPolicyKernel$Server" 9,
  .instanceMethod ⟨"StackPolicyKernel$Server", "<init>", "()V"⟩,
  .code ⟨"StackPolicyKernel$Server", "<init>", "()V"⟩ prog_4_method_1_code 1 (Option.none : Option Jvm.ClassFile.FieldType),
  .methodLink "StackPolicyKernel$Server" 3 ⟨"java/lang/Object", "<init>", "()V"⟩,
  .fieldLink "StackPolicyKernel$Server" 9 "StackPolicyKernel$Server" "needs" "[I",
  .fieldLink "StackPolicyKernel$Server" 15 "StackPolicyKernel$Server" "oldest" "I",
  .fieldLink "StackPolicyKernel$Server" 19 "StackPolicyKernel$Server" "waiting" "I",
  .fieldLink "StackPolicyKernel" 176 "StackPolicyKernel$Server" "waiting" "I",
  .fieldLink "StackPolicyKernel$Server" 22 "StackPolicyKernel$Server" "size" "I",
  .fieldLink "StackPolicyKernel" 169 "StackPolicyKernel$Server" "size" "I",
  .fieldLink "StackPolicyKernel$Server" 25 "StackPolicyKernel$Server" "period" "I",
  .fieldLink "StackPolicyKernel" 168 "StackPolicyKernel$Server" "period" "I",
  .fieldLink "StackPolicyKernel$Server" 28 "StackPolicyKernel$Server" "budget" "I",
  .fieldLink "StackPolicyKernel$Server" 31 "StackPolicyKernel$Server" "deadline" "I",
  .fieldLink "StackPolicyKernel" 179 "StackPolicyKernel$Server" "deadline" "I",
  .fieldLink "StackPolicyKernel$Server" 34 "StackPolicyKernel$Server" "usedUp" "I",
  .fieldLink "StackPolicyKernel$Server" 37 "StackPolicyKernel$Server" "finished" "I",
  .fieldLink "StackPolicyKernel" 120 "StackPolicyKernel$Server" "finished" "I",
  .laysFinal "StackPolicyKernel$Server" "StackPolicyKernel$Server" "needs" "[I",
  .lays "StackPolicyKernel$Server" "StackPolicyKernel$Server" "oldest" "I",
  .lays "StackPolicyKernel$Server" "StackPolicyKernel$Server" "waiting" "I",
  .lays "StackPolicyKernel$Server" "StackPolicyKernel$Server" "size" "I",
  .lays "StackPolicyKernel$Server" "StackPolicyKernel$Server" "period" "I",
  .lays "StackPolicyKernel$Server" "StackPolicyKernel$Server" "budget" "I",
  .lays "StackPolicyKernel$Server" "StackPolicyKernel$Server" "deadline" "I",
  .lays "StackPolicyKernel$Server" "StackPolicyKernel$Server" "usedUp" "I",
  .lays "StackPolicyKernel$Server" "StackPolicyKernel$Server" "finished" "I",
  .arrayClass Jvm.ClassFile.FieldType.int,
  .classLink "StackPolicyKernel" 26 "StackPolicyKernel$Trace",
  .instantiable "StackPolicyKernel$Trace" 4,
  .instanceMethod ⟨"StackPolicyKernel$Trace", "<init>", "()V"⟩]
def pg_A2 : List Jvm.Cond := [.code ⟨"StackPolicyKernel$Trace", "<init>", "()V"⟩ prog_6_method_1_code 1 (Option.none : Option Jvm.ClassFile.FieldType),
  .methodLink "StackPolicyKernel$Trace" 3 ⟨"java/lang/Object", "<init>", "()V"⟩,
  .fieldLink "StackPolicyKernel$Trace" 9 "StackPolicyKernel$Trace" "codes" "[I",
  .fieldLink "StackPolicyKernel$Trace" 15 "StackPolicyKernel$Trace" "ticks" "I",
  .fieldLink "StackPolicyKernel" 98 "StackPolicyKernel$Trace" "ticks" "I",
  .fieldLink "StackPolicyKernel$Trace" 19 "StackPolicyKernel$Trace" "idleTicks" "I",
  .fieldLink "StackPolicyKernel" 152 "StackPolicyKernel$Trace" "idleTicks" "I",
  .fieldLink "StackPolicyKernel$Trace" 22 "StackPolicyKernel$Trace" "changes" "I",
  .fieldLink "StackPolicyKernel" 155 "StackPolicyKernel$Trace" "changes" "I",
  .laysFinal "StackPolicyKernel$Trace" "StackPolicyKernel$Trace" "codes" "[I",
  .lays "StackPolicyKernel$Trace" "StackPolicyKernel$Trace" "ticks" "I",
  .lays "StackPolicyKernel$Trace" "StackPolicyKernel$Trace" "idleTicks" "I",
  .lays "StackPolicyKernel$Trace" "StackPolicyKernel$Trace" "changes" "I",
  .fieldLink "StackPolicyKernel" 11 "StackPolicyKernel" "tasks" "[LStackPolicyKernel$Task;",
  .fieldLink "StackPolicyKernel" 15 "StackPolicyKernel" "ceilings" "[I",
  .fieldLink "StackPolicyKernel" 22 "StackPolicyKernel" "theServer" "LStackPolicyKernel$Server;",
  .fieldLink "StackPolicyKernel" 29 "StackPolicyKernel" "trace" "LStackPolicyKernel$Trace;",
  .fieldLink "StackPolicyKernel" 33 "StackPolicyKernel" "taskCount" "I",
  .fieldLink "StackPolicyKernel" 37 "StackPolicyKernel" "started" "Z",
  .fieldLink "StackPolicyKernel" 41 "StackPolicyKernel" "releasedJobs" "I",
  .fieldLink "StackPolicyKernel" 44 "StackPolicyKernel" "endedJobs" "I",
  .laysFinal "StackPolicyKernel" "StackPolicyKernel" "tasks" "[LStackPolicyKernel$Task;",
  .laysFinal "StackPolicyKernel" "StackPolicyKernel" "ceilings" "[I",
  .laysFinal "StackPolicyKernel" "StackPolicyKernel" "theServer" "LStackPolicyKernel$Server;",
  .laysFinal "StackPolicyKernel" "StackPolicyKernel" "trace" "LStackPolicyKernel$Trace;",
  .lays "StackPolicyKernel" "StackPolicyKernel" "taskCount" "I",
  .lays "StackPolicyKernel" "StackPolicyKernel" "started" "Z",
  .lays "StackPolicyKernel" "StackPolicyKernel" "releasedJobs" "I",
  .lays "StackPolicyKernel" "StackPolicyKernel" "endedJobs" "I",
  .methodLink "StackPolicyKernelLaw" 13 ⟨"StackPolicyKernel", "task", "(III)I"⟩,
  .instanceMethod ⟨"StackPolicyKernel", "task", "(III)I"⟩,
  .selects "StackPolicyKernel" ⟨"StackPolicyKernel", "task", "(III)I"⟩ ⟨"StackPolicyKernel", "task", "(III)I"⟩,
  .code ⟨"StackPolicyKernel", "task", "(III)I"⟩ prog_1_method_2_code 5 (Option.some Jvm.ClassFile.FieldType.int),
  .instantiable "StackPolicyKernel$Task" 10,
  .methodLink "StackPolicyKernel" 47 ⟨"StackPolicyKernel$Task", "<init>", "(III)V"⟩,
  .instanceMethod ⟨"StackPolicyKernel$Task", "<init>", "(III)V"⟩,
  .code ⟨"StackPolicyKernel$Task", "<init>", "(III)V"⟩ prog_5_method_1_code 4 (Option.none : Option Jvm.ClassFile.FieldType),
  .methodLink "StackPolicyKernel$Task" 3 ⟨"java/lang/Object", "<init>", "()V"⟩,
  .classLink "StackPolicyKernel$Task" 9 "StackPolicyKernel$Section",
  .classLink "StackPolicyKernel$Task" 17 "StackPolicyKernel$Job"]
def pg_A3 : List Jvm.Cond := [.instantiable "StackPolicyKernel$Job" 7,
  .instanceMethod ⟨"StackPolicyKernel$Job", "<init>", "()V"⟩,
  .code ⟨"StackPolicyKernel$Job", "<init>", "()V"⟩ prog_2_method_1_code 1 (Option.none : Option Jvm.ClassFile.FieldType),
  .methodLink "StackPolicyKernel$Job" 3 ⟨"java/lang/Object", "<init>", "()V"⟩,
  .fieldLink "StackPolicyKernel$Job" 9 "StackPolicyKernel$Job" "countedSpells" "[I",
  .fieldLink "StackPolicyKernel$Job" 15 "StackPolicyKernel$Job" "amount" "I",
  .fieldLink "StackPolicyKernel$Job" 19 "StackPolicyKernel$Job" "ticksRun" "I",
  .fieldLink "StackPolicyKernel$Task" 75 "StackPolicyKernel$Job" "ticksRun" "I",
  .fieldLink "StackPolicyKernel$Job" 22 "StackPolicyKernel$Job" "releaseTime" "I",
  .fieldLink "StackPolicyKernel" 101 "StackPolicyKernel$Job" "releaseTime" "I",
  .fieldLink "StackPolicyKernel$Job" 25 "StackPolicyKernel$Job" "deadline" "I",
  .fieldLink "StackPolicyKernel" 182 "StackPolicyKernel$Job" "deadline" "I",
  .fieldLink "StackPolicyKernel$Job" 28 "StackPolicyKernel$Job" "blockings" "I",
  .fieldLink "StackPolicyKernel$Job" 31 "StackPolicyKernel$Job" "blockedTicks" "I",
  .laysFinal "StackPolicyKernel$Job" "StackPolicyKernel$Job" "countedSpells" "[I",
  .lays "StackPolicyKernel$Job" "StackPolicyKernel$Job" "amount" "I",
  .lays "StackPolicyKernel$Job" "StackPolicyKernel$Job" "ticksRun" "I",
  .lays "StackPolicyKernel$Job" "StackPolicyKernel$Job" "releaseTime" "I",
  .lays "StackPolicyKernel$Job" "StackPolicyKernel$Job" "deadline" "I",
  .lays "StackPolicyKernel$Job" "StackPolicyKernel$Job" "blockings" "I",
  .lays "StackPolicyKernel$Job" "StackPolicyKernel$Job" "blockedTicks" "I",
  .fieldLink "StackPolicyKernel$Task" 40 "StackPolicyKernel$Task" "period" "I",
  .fieldLink "StackPolicyKernel" 104 "StackPolicyKernel$Task" "period" "I",
  .fieldLink "StackPolicyKernel$Task" 43 "StackPolicyKernel$Task" "span" "I",
  .fieldLink "StackPolicyKernel" 107 "StackPolicyKernel$Task" "span" "I",
  .fieldLink "StackPolicyKernel$Task" 46 "StackPolicyKernel$Task" "cost" "I",
  .fieldLink "StackPolicyKernel" 57 "StackPolicyKernel$Task" "cost" "I",
  .fieldLink "StackPolicyKernel$Task" 11 "StackPolicyKernel$Task" "sections" "[LStackPolicyKernel$Section;",
  .fieldLink "StackPolicyKernel$Task" 20 "StackPolicyKernel$Task" "job" "LStackPolicyKernel$Job;",
  .fieldLink "StackPolicyKernel" 85 "StackPolicyKernel$Task" "job" "LStackPolicyKernel$Job;",
  .fieldLink "StackPolicyKernel$Task" 24 "StackPolicyKernel$Task" "sectionCount" "I",
  .fieldLink "StackPolicyKernel$Task" 28 "StackPolicyKernel$Task" "missedJobs" "I",
  .fieldLink "StackPolicyKernel" 145 "StackPolicyKernel$Task" "missedJobs" "I",
  .fieldLink "StackPolicyKernel$Task" 31 "StackPolicyKernel$Task" "longestResponse" "I",
  .fieldLink "StackPolicyKernel" 148 "StackPolicyKernel$Task" "longestResponse" "I",
  .fieldLink "StackPolicyKernel$Task" 34 "StackPolicyKernel$Task" "spells" "I",
  .fieldLink "StackPolicyKernel$Task" 37 "StackPolicyKernel$Task" "tickSpell" "I",
  .fieldLink "StackPolicyKernel" 219 "StackPolicyKernel$Task" "tickSpell" "I",
  .laysFinal "StackPolicyKernel$Task" "StackPolicyKernel$Task" "period" "I",
  .laysFinal "StackPolicyKernel$Task" "StackPolicyKernel$Task" "span" "I"]
def pg_A4 : List Jvm.Cond := [.laysFinal "StackPolicyKernel$Task" "StackPolicyKernel$Task" "cost" "I",
  .laysFinal "StackPolicyKernel$Task" "StackPolicyKernel$Task" "sections" "[LStackPolicyKernel$Section;",
  .laysFinal "StackPolicyKernel$Task" "StackPolicyKernel$Task" "job" "LStackPolicyKernel$Job;",
  .lays "StackPolicyKernel$Task" "StackPolicyKernel$Task" "sectionCount" "I",
  .lays "StackPolicyKernel$Task" "StackPolicyKernel$Task" "missedJobs" "I",
  .lays "StackPolicyKernel$Task" "StackPolicyKernel$Task" "longestResponse" "I",
  .lays "StackPolicyKernel$Task" "StackPolicyKernel$Task" "spells" "I",
  .lays "StackPolicyKernel$Task" "StackPolicyKernel$Task" "tickSpell" "I",
  .methodLink "StackPolicyKernelLaw" 18 ⟨"StackPolicyKernel", "section", "(IIII)Z"⟩,
  .instanceMethod ⟨"StackPolicyKernel", "section", "(IIII)Z"⟩,
  .selects "StackPolicyKernel" ⟨"StackPolicyKernel", "section", "(IIII)Z"⟩ ⟨"StackPolicyKernel", "section", "(IIII)Z"⟩,
  .code ⟨"StackPolicyKernel", "section", "(IIII)Z"⟩ prog_1_method_3_code 6 (Option.some Jvm.ClassFile.FieldType.boolean),
  .methodLink "StackPolicyKernel" 50 ⟨"StackPolicyKernel", "isTask", "(I)Z"⟩,
  .instanceMethod ⟨"StackPolicyKernel", "isTask", "(I)Z"⟩,
  .code ⟨"StackPolicyKernel", "isTask", "(I)Z"⟩ prog_1_method_21_code 2 (Option.some Jvm.ClassFile.FieldType.boolean),
  .methodLink "StackPolicyKernel" 54 ⟨"StackPolicyKernel", "isResource", "(I)Z"⟩,
  .static ⟨"StackPolicyKernel", "isResource", "(I)Z"⟩,
  .code ⟨"StackPolicyKernel", "isResource", "(I)Z"⟩ prog_1_method_22_code 1 (Option.some Jvm.ClassFile.FieldType.boolean),
  .methodLink "StackPolicyKernel" 60 ⟨"StackPolicyKernel$Task", "allowsSection", "(III)Z"⟩,
  .instanceMethod ⟨"StackPolicyKernel$Task", "allowsSection", "(III)Z"⟩,
  .selects "StackPolicyKernel$Task" ⟨"StackPolicyKernel$Task", "allowsSection", "(III)Z"⟩ ⟨"StackPolicyKernel$Task", "allowsSection", "(III)Z"⟩,
  .code ⟨"StackPolicyKernel$Task", "allowsSection", "(III)Z"⟩ prog_5_method_3_code 5 (Option.some Jvm.ClassFile.FieldType.boolean),
  .methodLink "StackPolicyKernel$Task" 49 ⟨"StackPolicyKernel$Section", "agreesWith", "(III)Z"⟩,
  .instanceMethod ⟨"StackPolicyKernel$Section", "agreesWith", "(III)Z"⟩,
  .selects "StackPolicyKernel$Section" ⟨"StackPolicyKernel$Section", "agreesWith", "(III)Z"⟩ ⟨"StackPolicyKernel$Section", "agreesWith", "(III)Z"⟩,
  .code ⟨"StackPolicyKernel$Section", "agreesWith", "(III)Z"⟩ prog_3_method_2_code 7 (Option.some Jvm.ClassFile.FieldType.boolean),
  .methodLink "StackPolicyKernel" 64 ⟨"StackPolicyKernel$Task", "addSection", "(III)V"⟩,
  .instanceMethod ⟨"StackPolicyKernel$Task", "addSection", "(III)V"⟩,
  .selects "StackPolicyKernel$Task" ⟨"StackPolicyKernel$Task", "addSection", "(III)V"⟩ ⟨"StackPolicyKernel$Task", "addSection", "(III)V"⟩,
  .code ⟨"StackPolicyKernel$Task", "addSection", "(III)V"⟩ prog_5_method_4_code 4 (Option.none : Option Jvm.ClassFile.FieldType),
  .instantiable "StackPolicyKernel$Section" 3,
  .methodLink "StackPolicyKernel$Task" 53 ⟨"StackPolicyKernel$Section", "<init>", "(III)V"⟩,
  .instanceMethod ⟨"StackPolicyKernel$Section", "<init>", "(III)V"⟩,
  .code ⟨"StackPolicyKernel$Section", "<init>", "(III)V"⟩ prog_3_method_1_code 4 (Option.none : Option Jvm.ClassFile.FieldType),
  .methodLink "StackPolicyKernel$Section" 1 ⟨"java/lang/Object", "<init>", "()V"⟩,
  .fieldLink "StackPolicyKernel$Section" 7 "StackPolicyKernel$Section" "resource" "I",
  .fieldLink "StackPolicyKernel$Task" 56 "StackPolicyKernel$Section" "resource" "I",
  .fieldLink "StackPolicyKernel$Section" 13 "StackPolicyKernel$Section" "from" "I",
  .fieldLink "StackPolicyKernel$Task" 62 "StackPolicyKernel$Section" "from" "I",
  .fieldLink "StackPolicyKernel$Section" 16 "StackPolicyKernel$Section" "to" "I"]
def pg_A5 : List Jvm.Cond := [.fieldLink "StackPolicyKernel$Task" 59 "StackPolicyKernel$Section" "to" "I",
  .laysFinal "StackPolicyKernel$Section" "StackPolicyKernel$Section" "resource" "I",
  .laysFinal "StackPolicyKernel$Section" "StackPolicyKernel$Section" "from" "I",
  .laysFinal "StackPolicyKernel$Section" "StackPolicyKernel$Section" "to" "I",
  .methodLink "StackPolicyKernel" 67 ⟨"StackPolicyKernel$Task", "level", "()I"⟩,
  .instanceMethod ⟨"StackPolicyKernel$Task", "level", "()I"⟩,
  .selects "StackPolicyKernel$Task" ⟨"StackPolicyKernel$Task", "level", "()I"⟩ ⟨"StackPolicyKernel$Task", "level", "()I"⟩,
  .code ⟨"StackPolicyKernel$Task", "level", "()I"⟩ prog_5_method_2_code 1 (Option.some Jvm.ClassFile.FieldType.int),
  .methodLink "StackPolicyKernel" 71 ⟨"java/lang/Math", "max", "(II)I"⟩,
  .static ⟨"java/lang/Math", "max", "(II)I"⟩,
  .code ⟨"java/lang/Math", "max", "(II)I"⟩ prog_9_method_65_code 2 (Option.some Jvm.ClassFile.FieldType.int),
  .methodLink "StackPolicyKernelLaw" 23 ⟨"StackPolicyKernel", "server", "(II)Z"⟩,
  .instanceMethod ⟨"StackPolicyKernel", "server", "(II)Z"⟩,
  .selects "StackPolicyKernel" ⟨"StackPolicyKernel", "server", "(II)Z"⟩ ⟨"StackPolicyKernel", "server", "(II)Z"⟩,
  .code ⟨"StackPolicyKernel", "server", "(II)Z"⟩ prog_1_method_4_code 3 (Option.some Jvm.ClassFile.FieldType.boolean),
  .methodLink "StackPolicyKernel" 77 ⟨"StackPolicyKernel$Server", "setUp", "(II)V"⟩,
  .instanceMethod ⟨"StackPolicyKernel$Server", "setUp", "(II)V"⟩,
  .selects "StackPolicyKernel$Server" ⟨"StackPolicyKernel$Server", "setUp", "(II)V"⟩ ⟨"StackPolicyKernel$Server", "setUp", "(II)V"⟩,
  .code ⟨"StackPolicyKernel$Server", "setUp", "(II)V"⟩ prog_4_method_3_code 3 (Option.none : Option Jvm.ClassFile.FieldType),
  .methodLink "StackPolicyKernelLaw" 28 ⟨"StackPolicyKernel", "start", "()Z"⟩,
  .instanceMethod ⟨"StackPolicyKernel", "start", "()Z"⟩,
  .selects "StackPolicyKernel" ⟨"StackPolicyKernel", "start", "()Z"⟩ ⟨"StackPolicyKernel", "start", "()Z"⟩,
  .code ⟨"StackPolicyKernel", "start", "()Z"⟩ prog_1_method_5_code 1 (Option.some Jvm.ClassFile.FieldType.boolean),
  .methodLink "StackPolicyKernelLaw" 33 ⟨"StackPolicyKernel", "verdict", "()I"⟩,
  .instanceMethod ⟨"StackPolicyKernel", "verdict", "()I"⟩,
  .selects "StackPolicyKernel" ⟨"StackPolicyKernel", "verdict", "()I"⟩ ⟨"StackPolicyKernel", "verdict", "()I"⟩,
  .code ⟨"StackPolicyKernel", "verdict", "()I"⟩ prog_1_method_6_code 2 (Option.some Jvm.ClassFile.FieldType.int),
  .methodLink "StackPolicyKernel" 81 ⟨"StackPolicyKernel", "passes", "(LStackPolicyKernel$Task;)Z"⟩,
  .instanceMethod ⟨"StackPolicyKernel", "passes", "(LStackPolicyKernel$Task;)Z"⟩,
  .code ⟨"StackPolicyKernel", "passes", "(LStackPolicyKernel$Task;)Z"⟩ prog_1_method_24_code 7 (Option.some Jvm.ClassFile.FieldType.boolean),
  .methodLink "StackPolicyKernel" 164 ⟨"StackPolicyKernel", "longestHoldAgainst", "(LStackPolicyKernel$Task;)I"⟩,
  .instanceMethod ⟨"StackPolicyKernel", "longestHoldAgainst", "(LStackPolicyKernel$Task;)I"⟩,
  .code ⟨"StackPolicyKernel", "longestHoldAgainst", "(LStackPolicyKernel$Task;)I"⟩ prog_1_method_25_code 4 (Option.some Jvm.ClassFile.FieldType.int),
  .methodLink "StackPolicyKernel" 172 ⟨"StackPolicyKernel$Task", "longestHold", "([II)I"⟩,
  .instanceMethod ⟨"StackPolicyKernel$Task", "longestHold", "([II)I"⟩,
  .selects "StackPolicyKernel$Task" ⟨"StackPolicyKernel$Task", "longestHold", "([II)I"⟩ ⟨"StackPolicyKernel$Task", "longestHold", "([II)I"⟩,
  .code ⟨"StackPolicyKernel$Task", "longestHold", "([II)I"⟩ prog_5_method_5_code 5 (Option.some Jvm.ClassFile.FieldType.int),
  .methodLink "StackPolicyKernel$Task" 65 ⟨"java/lang/Math", "max", "(II)I"⟩,
  .methodLink "StackPolicyKernel" 113 ⟨"StackPolicyKernel$Server", "exists", "()Z"⟩,
  .instanceMethod ⟨"StackPolicyKernel$Server", "exists", "()Z"⟩]
def pg_A6 : List Jvm.Cond := [.selects "StackPolicyKernel$Server" ⟨"StackPolicyKernel$Server", "exists", "()Z"⟩ ⟨"StackPolicyKernel$Server", "exists", "()Z"⟩,
  .code ⟨"StackPolicyKernel$Server", "exists", "()Z"⟩ prog_4_method_2_code 1 (Option.some Jvm.ClassFile.FieldType.boolean),
  .methodLink "StackPolicyKernelLaw" 38 ⟨"StackPolicyKernel", "ceiling", "(I)I"⟩,
  .instanceMethod ⟨"StackPolicyKernel", "ceiling", "(I)I"⟩,
  .selects "StackPolicyKernel" ⟨"StackPolicyKernel", "ceiling", "(I)I"⟩ ⟨"StackPolicyKernel", "ceiling", "(I)I"⟩,
  .code ⟨"StackPolicyKernel", "ceiling", "(I)I"⟩ prog_1_method_7_code 2 (Option.some Jvm.ClassFile.FieldType.int),
  .methodLink "StackPolicyKernelLaw" 43 ⟨"StackPolicyKernel", "release", "(II)I"⟩,
  .instanceMethod ⟨"StackPolicyKernel", "release", "(II)I"⟩,
  .selects "StackPolicyKernel" ⟨"StackPolicyKernel", "release", "(II)I"⟩ ⟨"StackPolicyKernel", "release", "(II)I"⟩,
  .code ⟨"StackPolicyKernel", "release", "(II)I"⟩ prog_1_method_8_code 4 (Option.some Jvm.ClassFile.FieldType.int),
  .methodLink "StackPolicyKernel" 89 ⟨"StackPolicyKernel$Job", "isPending", "()Z"⟩,
  .instanceMethod ⟨"StackPolicyKernel$Job", "isPending", "()Z"⟩,
  .selects "StackPolicyKernel$Job" ⟨"StackPolicyKernel$Job", "isPending", "()Z"⟩ ⟨"StackPolicyKernel$Job", "isPending", "()Z"⟩,
  .code ⟨"StackPolicyKernel$Job", "isPending", "()Z"⟩ prog_2_method_3_code 1 (Option.some Jvm.ClassFile.FieldType.boolean),
  .methodLink "StackPolicyKernel" 95 ⟨"StackPolicyKernel$Job", "wasReleased", "()Z"⟩,
  .instanceMethod ⟨"StackPolicyKernel$Job", "wasReleased", "()Z"⟩,
  .selects "StackPolicyKernel$Job" ⟨"StackPolicyKernel$Job", "wasReleased", "()Z"⟩ ⟨"StackPolicyKernel$Job", "wasReleased", "()Z"⟩,
  .code ⟨"StackPolicyKernel$Job", "wasReleased", "()Z"⟩ prog_2_method_2_code 1 (Option.some Jvm.ClassFile.FieldType.boolean),
  .methodLink "StackPolicyKernel" 110 ⟨"StackPolicyKernel$Job", "begin", "(III)V"⟩,
  .instanceMethod ⟨"StackPolicyKernel$Job", "begin", "(III)V"⟩,
  .selects "StackPolicyKernel$Job" ⟨"StackPolicyKernel$Job", "begin", "(III)V"⟩ ⟨"StackPolicyKernel$Job", "begin", "(III)V"⟩,
  .code ⟨"StackPolicyKernel$Job", "begin", "(III)V"⟩ prog_2_method_5_code 5 (Option.none : Option Jvm.ClassFile.FieldType),
  .methodLink "StackPolicyKernelLaw" 48 ⟨"StackPolicyKernel", "submit", "(I)Z"⟩,
  .instanceMethod ⟨"StackPolicyKernel", "submit", "(I)Z"⟩,
  .selects "StackPolicyKernel" ⟨"StackPolicyKernel", "submit", "(I)Z"⟩ ⟨"StackPolicyKernel", "submit", "(I)Z"⟩,
  .code ⟨"StackPolicyKernel", "submit", "(I)Z"⟩ prog_1_method_9_code 2 (Option.some Jvm.ClassFile.FieldType.boolean),
  .methodLink "StackPolicyKernel" 116 ⟨"StackPolicyKernel$Server", "takeRequest", "(II)Z"⟩,
  .instanceMethod ⟨"StackPolicyKernel$Server", "takeRequest", "(II)Z"⟩,
  .selects "StackPolicyKernel$Server" ⟨"StackPolicyKernel$Server", "takeRequest", "(II)Z"⟩ ⟨"StackPolicyKernel$Server", "takeRequest", "(II)Z"⟩,
  .code ⟨"StackPolicyKernel$Server", "takeRequest", "(II)Z"⟩ prog_4_method_4_code 3 (Option.some Jvm.ClassFile.FieldType.boolean),
  .methodLink "StackPolicyKernel$Server" 40 ⟨"StackPolicyKernel$Server", "slot", "(I)I"⟩,
  .instanceMethod ⟨"StackPolicyKernel$Server", "slot", "(I)I"⟩,
  .selects "StackPolicyKernel$Server" ⟨"StackPolicyKernel$Server", "slot", "(I)I"⟩ ⟨"StackPolicyKernel$Server", "slot", "(I)I"⟩,
  .code ⟨"StackPolicyKernel$Server", "slot", "(I)I"⟩ prog_4_method_5_code 2 (Option.some Jvm.ClassFile.FieldType.int),
  .methodLink "StackPolicyKernelLaw" 53 ⟨"StackPolicyKernel", "step", "(I)I"⟩,
  .instanceMethod ⟨"StackPolicyKernel", "step", "(I)I"⟩,
  .selects "StackPolicyKernel" ⟨"StackPolicyKernel", "step", "(I)I"⟩ ⟨"StackPolicyKernel", "step", "(I)I"⟩,
  .code ⟨"StackPolicyKernel", "step", "(I)I"⟩ prog_1_method_10_code 4 (Option.some Jvm.ClassFile.FieldType.int),
  .methodLink "StackPolicyKernel" 123 ⟨"StackPolicyKernel", "makeTick", "()V"⟩,
  .instanceMethod ⟨"StackPolicyKernel", "makeTick", "()V"⟩]
def pg_A7 : List Jvm.Cond := [.code ⟨"StackPolicyKernel", "makeTick", "()V"⟩ prog_1_method_32_code 3 (Option.none : Option Jvm.ClassFile.FieldType),
  .methodLink "StackPolicyKernel" 193 ⟨"StackPolicyKernel", "firstInOrder", "()I"⟩,
  .instanceMethod ⟨"StackPolicyKernel", "firstInOrder", "()I"⟩,
  .code ⟨"StackPolicyKernel", "firstInOrder", "()I"⟩ prog_1_method_30_code 3 (Option.some Jvm.ClassFile.FieldType.int),
  .methodLink "StackPolicyKernel" 130 ⟨"StackPolicyKernel", "isInOrder", "(I)Z"⟩,
  .instanceMethod ⟨"StackPolicyKernel", "isInOrder", "(I)Z"⟩,
  .code ⟨"StackPolicyKernel", "isInOrder", "(I)Z"⟩ prog_1_method_26_code 2 (Option.some Jvm.ClassFile.FieldType.boolean),
  .methodLink "StackPolicyKernel" 186 ⟨"StackPolicyKernel", "comesBefore", "(II)Z"⟩,
  .instanceMethod ⟨"StackPolicyKernel", "comesBefore", "(II)Z"⟩,
  .code ⟨"StackPolicyKernel", "comesBefore", "(II)Z"⟩ prog_1_method_28_code 5 (Option.some Jvm.ClassFile.FieldType.boolean),
  .methodLink "StackPolicyKernel" 183 ⟨"StackPolicyKernel", "deadlineOf", "(I)I"⟩,
  .instanceMethod ⟨"StackPolicyKernel", "deadlineOf", "(I)I"⟩,
  .code ⟨"StackPolicyKernel", "deadlineOf", "(I)I"⟩ prog_1_method_27_code 2 (Option.some Jvm.ClassFile.FieldType.int),
  .methodLink "StackPolicyKernel" 196 ⟨"StackPolicyKernel", "chooseRunner", "(I)I"⟩,
  .instanceMethod ⟨"StackPolicyKernel", "chooseRunner", "(I)I"⟩,
  .code ⟨"StackPolicyKernel", "chooseRunner", "(I)I"⟩ prog_1_method_33_code 5 (Option.some Jvm.ClassFile.FieldType.int),
  .methodLink "StackPolicyKernel" 161 ⟨"StackPolicyKernel$Job", "hasRun", "()Z"⟩,
  .instanceMethod ⟨"StackPolicyKernel$Job", "hasRun", "()Z"⟩,
  .selects "StackPolicyKernel$Job" ⟨"StackPolicyKernel$Job", "hasRun", "()Z"⟩ ⟨"StackPolicyKernel$Job", "hasRun", "()Z"⟩,
  .code ⟨"StackPolicyKernel$Job", "hasRun", "()Z"⟩ prog_2_method_4_code 1 (Option.some Jvm.ClassFile.FieldType.boolean),
  .methodLink "StackPolicyKernel" 139 ⟨"StackPolicyKernel", "highestHeldCeiling", "()I"⟩,
  .instanceMethod ⟨"StackPolicyKernel", "highestHeldCeiling", "()I"⟩,
  .code ⟨"StackPolicyKernel", "highestHeldCeiling", "()I"⟩ prog_1_method_31_code 3 (Option.some Jvm.ClassFile.FieldType.int),
  .methodLink "StackPolicyKernel" 189 ⟨"StackPolicyKernel$Task", "highestHeld", "([I)I"⟩,
  .instanceMethod ⟨"StackPolicyKernel$Task", "highestHeld", "([I)I"⟩,
  .selects "StackPolicyKernel$Task" ⟨"StackPolicyKernel$Task", "highestHeld", "([I)I"⟩ ⟨"StackPolicyKernel$Task", "highestHeld", "([I)I"⟩,
  .code ⟨"StackPolicyKernel$Task", "highestHeld", "([I)I"⟩ prog_5_method_9_code 4 (Option.some Jvm.ClassFile.FieldType.int),
  .methodLink "StackPolicyKernel$Task" 82 ⟨"StackPolicyKernel$Task", "isHeld", "(LStackPolicyKernel$Section;)Z"⟩,
  .instanceMethod ⟨"StackPolicyKernel$Task", "isHeld", "(LStackPolicyKernel$Section;)Z"⟩,
  .selects "StackPolicyKernel$Task" ⟨"StackPolicyKernel$Task", "isHeld", "(LStackPolicyKernel$Section;)Z"⟩ ⟨"StackPolicyKernel$Task", "isHeld", "(LStackPolicyKernel$Section;)Z"⟩,
  .code ⟨"StackPolicyKernel$Task", "isHeld", "(LStackPolicyKernel$Section;)Z"⟩ prog_5_method_6_code 2 (Option.some Jvm.ClassFile.FieldType.boolean),
  .methodLink "StackPolicyKernel$Task" 71 ⟨"StackPolicyKernel$Job", "isPending", "()Z"⟩,
  .methodLink "StackPolicyKernel$Task" 78 ⟨"StackPolicyKernel$Section", "isHeldAfter", "(I)Z"⟩,
  .instanceMethod ⟨"StackPolicyKernel$Section", "isHeldAfter", "(I)Z"⟩,
  .selects "StackPolicyKernel$Section" ⟨"StackPolicyKernel$Section", "isHeldAfter", "(I)Z"⟩ ⟨"StackPolicyKernel$Section", "isHeldAfter", "(I)Z"⟩,
  .code ⟨"StackPolicyKernel$Section", "isHeldAfter", "(I)Z"⟩ prog_3_method_3_code 2 (Option.some Jvm.ClassFile.FieldType.boolean),
  .methodLink "StackPolicyKernel" 199 ⟨"StackPolicyKernel$Server", "runTick", "()V"⟩,
  .instanceMethod ⟨"StackPolicyKernel$Server", "runTick", "()V"⟩,
  .selects "StackPolicyKernel$Server" ⟨"StackPolicyKernel$Server", "runTick", "()V"⟩ ⟨"StackPolicyKernel$Server", "runTick", "()V"⟩,
  .code ⟨"StackPolicyKernel$Server", "runTick", "()V"⟩ prog_4_method_6_code 1 (Option.none : Option Jvm.ClassFile.FieldType)]
def pg_A8 : List Jvm.Cond := [.methodLink "StackPolicyKernel" 202 ⟨"StackPolicyKernel", "runJob", "(I)V"⟩,
  .instanceMethod ⟨"StackPolicyKernel", "runJob", "(I)V"⟩,
  .code ⟨"StackPolicyKernel", "runJob", "(I)V"⟩ prog_1_method_34_code 2 (Option.none : Option Jvm.ClassFile.FieldType),
  .methodLink "StackPolicyKernel" 215 ⟨"StackPolicyKernel$Task", "runTick", "()V"⟩,
  .instanceMethod ⟨"StackPolicyKernel$Task", "runTick", "()V"⟩,
  .selects "StackPolicyKernel$Task" ⟨"StackPolicyKernel$Task", "runTick", "()V"⟩ ⟨"StackPolicyKernel$Task", "runTick", "()V"⟩,
  .code ⟨"StackPolicyKernel$Task", "runTick", "()V"⟩ prog_5_method_10_code 3 (Option.none : Option Jvm.ClassFile.FieldType),
  .methodLink "StackPolicyKernel$Task" 86 ⟨"StackPolicyKernel$Task", "holdsSomething", "()Z"⟩,
  .instanceMethod ⟨"StackPolicyKernel$Task", "holdsSomething", "()Z"⟩,
  .selects "StackPolicyKernel$Task" ⟨"StackPolicyKernel$Task", "holdsSomething", "()Z"⟩ ⟨"StackPolicyKernel$Task", "holdsSomething", "()Z"⟩,
  .code ⟨"StackPolicyKernel$Task", "holdsSomething", "()Z"⟩ prog_5_method_8_code 2 (Option.some Jvm.ClassFile.FieldType.boolean),
  .methodLink "StackPolicyKernel" 216 ⟨"StackPolicyKernel$Task", "noteResponse", "(I)V"⟩,
  .instanceMethod ⟨"StackPolicyKernel$Task", "noteResponse", "(I)V"⟩,
  .selects "StackPolicyKernel$Task" ⟨"StackPolicyKernel$Task", "noteResponse", "(I)V"⟩ ⟨"StackPolicyKernel$Task", "noteResponse", "(I)V"⟩,
  .code ⟨"StackPolicyKernel$Task", "noteResponse", "(I)V"⟩ prog_5_method_11_code 2 (Option.none : Option Jvm.ClassFile.FieldType),
  .methodLink "StackPolicyKernel" 206 ⟨"StackPolicyKernel", "noteBlocked", "(I)V"⟩,
  .instanceMethod ⟨"StackPolicyKernel", "noteBlocked", "(I)V"⟩,
  .code ⟨"StackPolicyKernel", "noteBlocked", "(I)V"⟩ prog_1_method_35_code 4 (Option.none : Option Jvm.ClassFile.FieldType),
  .methodLink "StackPolicyKernel" 222 ⟨"StackPolicyKernel$Job", "noteBlocked", "(II)V"⟩,
  .instanceMethod ⟨"StackPolicyKernel$Job", "noteBlocked", "(II)V"⟩,
  .selects "StackPolicyKernel$Job" ⟨"StackPolicyKernel$Job", "noteBlocked", "(II)V"⟩ ⟨"StackPolicyKernel$Job", "noteBlocked", "(II)V"⟩,
  .code ⟨"StackPolicyKernel$Job", "noteBlocked", "(II)V"⟩ prog_2_method_6_code 3 (Option.none : Option Jvm.ClassFile.FieldType),
  .methodLink "StackPolicyKernel" 209 ⟨"StackPolicyKernel$Trace", "note", "(I)V"⟩,
  .instanceMethod ⟨"StackPolicyKernel$Trace", "note", "(I)V"⟩,
  .selects "StackPolicyKernel$Trace" ⟨"StackPolicyKernel$Trace", "note", "(I)V"⟩ ⟨"StackPolicyKernel$Trace", "note", "(I)V"⟩,
  .code ⟨"StackPolicyKernel$Trace", "note", "(I)V"⟩ prog_6_method_2_code 2 (Option.none : Option Jvm.ClassFile.FieldType),
  .methodLink "StackPolicyKernel$Trace" 25 ⟨"StackPolicyKernel$Trace", "codeBack", "(I)I"⟩,
  .instanceMethod ⟨"StackPolicyKernel$Trace", "codeBack", "(I)I"⟩,
  .selects "StackPolicyKernel$Trace" ⟨"StackPolicyKernel$Trace", "codeBack", "(I)I"⟩ ⟨"StackPolicyKernel$Trace", "codeBack", "(I)I"⟩,
  .code ⟨"StackPolicyKernel$Trace", "codeBack", "(I)I"⟩ prog_6_method_3_code 2 (Option.some Jvm.ClassFile.FieldType.int),
  .methodLink "StackPolicyKernel" 212 ⟨"StackPolicyKernel", "noteMisses", "()V"⟩,
  .instanceMethod ⟨"StackPolicyKernel", "noteMisses", "()V"⟩,
  .code ⟨"StackPolicyKernel", "noteMisses", "()V"⟩ prog_1_method_36_code 2 (Option.none : Option Jvm.ClassFile.FieldType),
  .methodLink "StackPolicyKernelLaw" 57 ⟨"StackPolicyKernel", "time", "()I"⟩,
  .instanceMethod ⟨"StackPolicyKernel", "time", "()I"⟩,
  .selects "StackPolicyKernel" ⟨"StackPolicyKernel", "time", "()I"⟩ ⟨"StackPolicyKernel", "time", "()I"⟩,
  .code ⟨"StackPolicyKernel", "time", "()I"⟩ prog_1_method_11_code 1 (Option.some Jvm.ClassFile.FieldType.int),
  .methodLink "StackPolicyKernelLaw" 61 ⟨"StackPolicyKernel", "ran", "(I)I"⟩,
  .instanceMethod ⟨"StackPolicyKernel", "ran", "(I)I"⟩,
  .selects "StackPolicyKernel" ⟨"StackPolicyKernel", "ran", "(I)I"⟩ ⟨"StackPolicyKernel", "ran", "(I)I"⟩]
def pg_A9 : List Jvm.Cond := [.code ⟨"StackPolicyKernel", "ran", "(I)I"⟩ prog_1_method_12_code 2 (Option.some Jvm.ClassFile.FieldType.int),
  .methodLink "StackPolicyKernel" 126 ⟨"StackPolicyKernel$Trace", "codeBack", "(I)I"⟩,
  .methodLink "StackPolicyKernelLaw" 65 ⟨"StackPolicyKernel", "queued", "(I)I"⟩,
  .instanceMethod ⟨"StackPolicyKernel", "queued", "(I)I"⟩,
  .selects "StackPolicyKernel" ⟨"StackPolicyKernel", "queued", "(I)I"⟩ ⟨"StackPolicyKernel", "queued", "(I)I"⟩,
  .code ⟨"StackPolicyKernel", "queued", "(I)I"⟩ prog_1_method_13_code 3 (Option.some Jvm.ClassFile.FieldType.int),
  .methodLink "StackPolicyKernel" 133 ⟨"StackPolicyKernel", "placeInOrder", "(I)I"⟩,
  .instanceMethod ⟨"StackPolicyKernel", "placeInOrder", "(I)I"⟩,
  .code ⟨"StackPolicyKernel", "placeInOrder", "(I)I"⟩ prog_1_method_29_code 4 (Option.some Jvm.ClassFile.FieldType.int),
  .methodLink "StackPolicyKernelLaw" 69 ⟨"StackPolicyKernel", "holder", "(I)I"⟩,
  .instanceMethod ⟨"StackPolicyKernel", "holder", "(I)I"⟩,
  .selects "StackPolicyKernel" ⟨"StackPolicyKernel", "holder", "(I)I"⟩ ⟨"StackPolicyKernel", "holder", "(I)I"⟩,
  .code ⟨"StackPolicyKernel", "holder", "(I)I"⟩ prog_1_method_14_code 3 (Option.some Jvm.ClassFile.FieldType.int),
  .methodLink "StackPolicyKernel" 136 ⟨"StackPolicyKernel$Task", "holds", "(I)Z"⟩,
  .instanceMethod ⟨"StackPolicyKernel$Task", "holds", "(I)Z"⟩,
  .selects "StackPolicyKernel$Task" ⟨"StackPolicyKernel$Task", "holds", "(I)Z"⟩ ⟨"StackPolicyKernel$Task", "holds", "(I)Z"⟩,
  .code ⟨"StackPolicyKernel$Task", "holds", "(I)Z"⟩ prog_5_method_7_code 3 (Option.some Jvm.ClassFile.FieldType.boolean),
  .methodLink "StackPolicyKernelLaw" 73 ⟨"StackPolicyKernel", "systemCeiling", "()I"⟩,
  .instanceMethod ⟨"StackPolicyKernel", "systemCeiling", "()I"⟩,
  .selects "StackPolicyKernel" ⟨"StackPolicyKernel", "systemCeiling", "()I"⟩ ⟨"StackPolicyKernel", "systemCeiling", "()I"⟩,
  .code ⟨"StackPolicyKernel", "systemCeiling", "()I"⟩ prog_1_method_15_code 1 (Option.some Jvm.ClassFile.FieldType.int),
  .methodLink "StackPolicyKernelLaw" 77 ⟨"StackPolicyKernel", "job", "(II)I"⟩,
  .instanceMethod ⟨"StackPolicyKernel", "job", "(II)I"⟩,
  .selects "StackPolicyKernel" ⟨"StackPolicyKernel", "job", "(II)I"⟩ ⟨"StackPolicyKernel", "job", "(II)I"⟩,
  .code ⟨"StackPolicyKernel", "job", "(II)I"⟩ prog_1_method_16_code 3 (Option.some Jvm.ClassFile.FieldType.int),
  .methodLink "StackPolicyKernel" 142 ⟨"StackPolicyKernel$Job", "figure", "(I)I"⟩,
  .instanceMethod ⟨"StackPolicyKernel$Job", "figure", "(I)I"⟩,
  .selects "StackPolicyKernel$Job" ⟨"StackPolicyKernel$Job", "figure", "(I)I"⟩ ⟨"StackPolicyKernel$Job", "figure", "(I)I"⟩,
  .code ⟨"StackPolicyKernel$Job", "figure", "(I)I"⟩ prog_2_method_7_code 2 (Option.some Jvm.ClassFile.FieldType.int),
  .methodLink "StackPolicyKernelLaw" 81 ⟨"StackPolicyKernel", "misses", "(I)I"⟩,
  .instanceMethod ⟨"StackPolicyKernel", "misses", "(I)I"⟩,
  .selects "StackPolicyKernel" ⟨"StackPolicyKernel", "misses", "(I)I"⟩ ⟨"StackPolicyKernel", "misses", "(I)I"⟩,
  .code ⟨"StackPolicyKernel", "misses", "(I)I"⟩ prog_1_method_17_code 2 (Option.some Jvm.ClassFile.FieldType.int),
  .methodLink "StackPolicyKernelLaw" 85 ⟨"StackPolicyKernel", "worst", "(I)I"⟩,
  .instanceMethod ⟨"StackPolicyKernel", "worst", "(I)I"⟩,
  .selects "StackPolicyKernel" ⟨"StackPolicyKernel", "worst", "(I)I"⟩ ⟨"StackPolicyKernel", "worst", "(I)I"⟩,
  .code ⟨"StackPolicyKernel", "worst", "(I)I"⟩ prog_1_method_18_code 2 (Option.some Jvm.ClassFile.FieldType.int),
  .methodLink "StackPolicyKernelLaw" 89 ⟨"StackPolicyKernel", "serverFigure", "(I)I"⟩,
  .instanceMethod ⟨"StackPolicyKernel", "serverFigure", "(I)I"⟩,
  .selects "StackPolicyKernel" ⟨"StackPolicyKernel", "serverFigure", "(I)I"⟩ ⟨"StackPolicyKernel", "serverFigure", "(I)I"⟩]
def pg_A10 : List Jvm.Cond := [.code ⟨"StackPolicyKernel", "serverFigure", "(I)I"⟩ prog_1_method_19_code 2 (Option.some Jvm.ClassFile.FieldType.int),
  .methodLink "StackPolicyKernel" 151 ⟨"StackPolicyKernel$Server", "figure", "(I)I"⟩,
  .instanceMethod ⟨"StackPolicyKernel$Server", "figure", "(I)I"⟩,
  .selects "StackPolicyKernel$Server" ⟨"StackPolicyKernel$Server", "figure", "(I)I"⟩ ⟨"StackPolicyKernel$Server", "figure", "(I)I"⟩,
  .code ⟨"StackPolicyKernel$Server", "figure", "(I)I"⟩ prog_4_method_8_code 2 (Option.some Jvm.ClassFile.FieldType.int),
  .methodLink "StackPolicyKernel$Server" 44 ⟨"StackPolicyKernel$Server", "neededTicks", "()I"⟩,
  .instanceMethod ⟨"StackPolicyKernel$Server", "neededTicks", "()I"⟩,
  .selects "StackPolicyKernel$Server" ⟨"StackPolicyKernel$Server", "neededTicks", "()I"⟩ ⟨"StackPolicyKernel$Server", "neededTicks", "()I"⟩,
  .code ⟨"StackPolicyKernel$Server", "neededTicks", "()I"⟩ prog_4_method_7_code 3 (Option.some Jvm.ClassFile.FieldType.int),
  .methodLink "StackPolicyKernelLaw" 93 ⟨"StackPolicyKernel", "count", "(I)I"⟩,
  .instanceMethod ⟨"StackPolicyKernel", "count", "(I)I"⟩,
  .selects "StackPolicyKernel" ⟨"StackPolicyKernel", "count", "(I)I"⟩ ⟨"StackPolicyKernel", "count", "(I)I"⟩,
  .code ⟨"StackPolicyKernel", "count", "(I)I"⟩ prog_1_method_20_code 2 (Option.some Jvm.ClassFile.FieldType.int),
  .methodLink "StackPolicyKernel" 158 ⟨"StackPolicyKernel", "begunPendingJobs", "()I"⟩,
  .instanceMethod ⟨"StackPolicyKernel", "begunPendingJobs", "()I"⟩,
  .code ⟨"StackPolicyKernel", "begunPendingJobs", "()I"⟩ prog_1_method_23_code 3 (Option.some Jvm.ClassFile.FieldType.int),
  .classLink "StackPolicyKernelLaw" 10 "StackPolicyKernelModel",
  .instantiable "StackPolicyKernelModel" 35,
  .methodLink "StackPolicyKernelLaw" 12 ⟨"StackPolicyKernelModel", "<init>", "()V"⟩,
  .instanceMethod ⟨"StackPolicyKernelModel", "<init>", "()V"⟩,
  .code ⟨"StackPolicyKernelModel", "<init>", "()V"⟩ prog_8_method_1_code 1 (Option.none : Option Jvm.ClassFile.FieldType),
  .methodLink "StackPolicyKernelModel" 1 ⟨"java/lang/Object", "<init>", "()V"⟩,
  .fieldLink "StackPolicyKernelModel" 71 "StackPolicyKernelModel" "tasks" "I",
  .fieldLink "StackPolicyKernelModel" 7 "StackPolicyKernelModel" "period" "[I",
  .fieldLink "StackPolicyKernelModel" 13 "StackPolicyKernelModel" "span" "[I",
  .fieldLink "StackPolicyKernelModel" 16 "StackPolicyKernelModel" "cost" "[I",
  .fieldLink "StackPolicyKernelModel" 19 "StackPolicyKernelModel" "parts" "[I",
  .fieldLink "StackPolicyKernelModel" 22 "StackPolicyKernelModel" "resource" "[I",
  .fieldLink "StackPolicyKernelModel" 25 "StackPolicyKernelModel" "from" "[I",
  .fieldLink "StackPolicyKernelModel" 28 "StackPolicyKernelModel" "to" "[I",
  .fieldLink "StackPolicyKernelModel" 67 "StackPolicyKernelModel" "started" "Z",
  .fieldLink "StackPolicyKernelModel" 105 "StackPolicyKernelModel" "now" "I",
  .fieldLink "StackPolicyKernelModel" 83 "StackPolicyKernelModel" "size" "I",
  .fieldLink "StackPolicyKernelModel" 86 "StackPolicyKernelModel" "cycle" "I",
  .fieldLink "StackPolicyKernelModel" 89 "StackPolicyKernelModel" "budget" "I",
  .fieldLink "StackPolicyKernelModel" 114 "StackPolicyKernelModel" "due" "I",
  .fieldLink "StackPolicyKernelModel" 111 "StackPolicyKernelModel" "waits" "I",
  .fieldLink "StackPolicyKernelModel" 31 "StackPolicyKernelModel" "need" "[I",
  .fieldLink "StackPolicyKernelModel" 143 "StackPolicyKernelModel" "usedUp" "I",
  .fieldLink "StackPolicyKernelModel" 140 "StackPolicyKernelModel" "served" "I"]
def pg_A11 : List Jvm.Cond := [.fieldLink "StackPolicyKernelModel" 34 "StackPolicyKernelModel" "phase" "[I",
  .fieldLink "StackPolicyKernelModel" 37 "StackPolicyKernelModel" "since" "[I",
  .fieldLink "StackPolicyKernelModel" 40 "StackPolicyKernelModel" "amount" "[I",
  .fieldLink "StackPolicyKernelModel" 43 "StackPolicyKernelModel" "done" "[I",
  .fieldLink "StackPolicyKernelModel" 46 "StackPolicyKernelModel" "stopped" "[I",
  .fieldLink "StackPolicyKernelModel" 49 "StackPolicyKernelModel" "inSpell" "[I",
  .fieldLink "StackPolicyKernelModel" 52 "StackPolicyKernelModel" "spellCount" "[I",
  .fieldLink "StackPolicyKernelModel" 55 "StackPolicyKernelModel" "spell" "[I",
  .fieldLink "StackPolicyKernelModel" 58 "StackPolicyKernelModel" "missed" "[I",
  .fieldLink "StackPolicyKernelModel" 61 "StackPolicyKernelModel" "longest" "[I",
  .fieldLink "StackPolicyKernelModel" 149 "StackPolicyKernelModel" "spells" "I",
  .fieldLink "StackPolicyKernelModel" 108 "StackPolicyKernelModel" "jobs" "I",
  .fieldLink "StackPolicyKernelModel" 156 "StackPolicyKernelModel" "ended" "I",
  .fieldLink "StackPolicyKernelModel" 168 "StackPolicyKernelModel" "idle" "I",
  .fieldLink "StackPolicyKernelModel" 174 "StackPolicyKernelModel" "changes" "I",
  .fieldLink "StackPolicyKernelModel" 171 "StackPolicyKernelModel" "ticks" "I",
  .fieldLink "StackPolicyKernelModel" 64 "StackPolicyKernelModel" "codes" "[I",
  .lays "StackPolicyKernelModel" "StackPolicyKernelModel" "tasks" "I",
  .laysFinal "StackPolicyKernelModel" "StackPolicyKernelModel" "period" "[I",
  .laysFinal "StackPolicyKernelModel" "StackPolicyKernelModel" "span" "[I",
  .laysFinal "StackPolicyKernelModel" "StackPolicyKernelModel" "cost" "[I",
  .laysFinal "StackPolicyKernelModel" "StackPolicyKernelModel" "parts" "[I",
  .laysFinal "StackPolicyKernelModel" "StackPolicyKernelModel" "resource" "[I",
  .laysFinal "StackPolicyKernelModel" "StackPolicyKernelModel" "from" "[I",
  .laysFinal "StackPolicyKernelModel" "StackPolicyKernelModel" "to" "[I",
  .lays "StackPolicyKernelModel" "StackPolicyKernelModel" "started" "Z",
  .lays "StackPolicyKernelModel" "StackPolicyKernelModel" "now" "I",
  .lays "StackPolicyKernelModel" "StackPolicyKernelModel" "size" "I",
  .lays "StackPolicyKernelModel" "StackPolicyKernelModel" "cycle" "I",
  .lays "StackPolicyKernelModel" "StackPolicyKernelModel" "budget" "I",
  .lays "StackPolicyKernelModel" "StackPolicyKernelModel" "due" "I",
  .lays "StackPolicyKernelModel" "StackPolicyKernelModel" "waits" "I",
  .laysFinal "StackPolicyKernelModel" "StackPolicyKernelModel" "need" "[I",
  .lays "StackPolicyKernelModel" "StackPolicyKernelModel" "usedUp" "I",
  .lays "StackPolicyKernelModel" "StackPolicyKernelModel" "served" "I",
  .laysFinal "StackPolicyKernelModel" "StackPolicyKernelModel" "phase" "[I",
  .laysFinal "StackPolicyKernelModel" "StackPolicyKernelModel" "since" "[I",
  .laysFinal "StackPolicyKernelModel" "StackPolicyKernelModel" "amount" "[I",
  .laysFinal "StackPolicyKernelModel" "StackPolicyKernelModel" "done" "[I",
  .laysFinal "StackPolicyKernelModel" "StackPolicyKernelModel" "stopped" "[I"]
def pg_A12 : List Jvm.Cond := [.laysFinal "StackPolicyKernelModel" "StackPolicyKernelModel" "inSpell" "[I",
  .laysFinal "StackPolicyKernelModel" "StackPolicyKernelModel" "spellCount" "[I",
  .laysFinal "StackPolicyKernelModel" "StackPolicyKernelModel" "spell" "[I",
  .laysFinal "StackPolicyKernelModel" "StackPolicyKernelModel" "missed" "[I",
  .laysFinal "StackPolicyKernelModel" "StackPolicyKernelModel" "longest" "[I",
  .lays "StackPolicyKernelModel" "StackPolicyKernelModel" "spells" "I",
  .lays "StackPolicyKernelModel" "StackPolicyKernelModel" "jobs" "I",
  .lays "StackPolicyKernelModel" "StackPolicyKernelModel" "ended" "I",
  .lays "StackPolicyKernelModel" "StackPolicyKernelModel" "idle" "I",
  .lays "StackPolicyKernelModel" "StackPolicyKernelModel" "changes" "I",
  .lays "StackPolicyKernelModel" "StackPolicyKernelModel" "ticks" "I",
  .laysFinal "StackPolicyKernelModel" "StackPolicyKernelModel" "codes" "[I",
  .methodLink "StackPolicyKernelLaw" 17 ⟨"StackPolicyKernelModel", "task", "(III)I"⟩,
  .instanceMethod ⟨"StackPolicyKernelModel", "task", "(III)I"⟩,
  .selects "StackPolicyKernelModel" ⟨"StackPolicyKernelModel", "task", "(III)I"⟩ ⟨"StackPolicyKernelModel", "task", "(III)I"⟩,
  .code ⟨"StackPolicyKernelModel", "task", "(III)I"⟩ prog_8_method_3_code 4 (Option.some Jvm.ClassFile.FieldType.int),
  .methodLink "StackPolicyKernelModel" 75 ⟨"StackPolicyKernelModel", "rising", "(IIII)Z"⟩,
  .static ⟨"StackPolicyKernelModel", "rising", "(IIII)Z"⟩,
  .code ⟨"StackPolicyKernelModel", "rising", "(IIII)Z"⟩ prog_8_method_2_code 4 (Option.some Jvm.ClassFile.FieldType.boolean),
  .methodLink "StackPolicyKernelLaw" 22 ⟨"StackPolicyKernelModel", "section", "(IIII)Z"⟩,
  .instanceMethod ⟨"StackPolicyKernelModel", "section", "(IIII)Z"⟩,
  .selects "StackPolicyKernelModel" ⟨"StackPolicyKernelModel", "section", "(IIII)Z"⟩ ⟨"StackPolicyKernelModel", "section", "(IIII)Z"⟩,
  .code ⟨"StackPolicyKernelModel", "section", "(IIII)Z"⟩ prog_8_method_5_code 8 (Option.some Jvm.ClassFile.FieldType.boolean),
  .methodLink "StackPolicyKernelModel" 79 ⟨"StackPolicyKernelModel", "isTask", "(I)Z"⟩,
  .instanceMethod ⟨"StackPolicyKernelModel", "isTask", "(I)Z"⟩,
  .code ⟨"StackPolicyKernelModel", "isTask", "(I)Z"⟩ prog_8_method_4_code 2 (Option.some Jvm.ClassFile.FieldType.boolean),
  .methodLink "StackPolicyKernelLaw" 27 ⟨"StackPolicyKernelModel", "server", "(II)Z"⟩,
  .instanceMethod ⟨"StackPolicyKernelModel", "server", "(II)Z"⟩,
  .selects "StackPolicyKernelModel" ⟨"StackPolicyKernelModel", "server", "(II)Z"⟩ ⟨"StackPolicyKernelModel", "server", "(II)Z"⟩,
  .code ⟨"StackPolicyKernelModel", "server", "(II)Z"⟩ prog_8_method_6_code 3 (Option.some Jvm.ClassFile.FieldType.boolean),
  .methodLink "StackPolicyKernelLaw" 32 ⟨"StackPolicyKernelModel", "start", "()Z"⟩,
  .instanceMethod ⟨"StackPolicyKernelModel", "start", "()Z"⟩,
  .selects "StackPolicyKernelModel" ⟨"StackPolicyKernelModel", "start", "()Z"⟩ ⟨"StackPolicyKernelModel", "start", "()Z"⟩,
  .code ⟨"StackPolicyKernelModel", "start", "()Z"⟩ prog_8_method_7_code 2 (Option.some Jvm.ClassFile.FieldType.boolean),
  .methodLink "StackPolicyKernelLaw" 42 ⟨"StackPolicyKernelModel", "ceiling", "(I)I"⟩,
  .instanceMethod ⟨"StackPolicyKernelModel", "ceiling", "(I)I"⟩,
  .selects "StackPolicyKernelModel" ⟨"StackPolicyKernelModel", "ceiling", "(I)I"⟩ ⟨"StackPolicyKernelModel", "ceiling", "(I)I"⟩,
  .code ⟨"StackPolicyKernelModel", "ceiling", "(I)I"⟩ prog_8_method_9_code 5 (Option.some Jvm.ClassFile.FieldType.int),
  .methodLink "StackPolicyKernelModel" 92 ⟨"StackPolicyKernelModel", "level", "(I)I"⟩,
  .instanceMethod ⟨"StackPolicyKernelModel", "level", "(I)I"⟩]
def pg_A13 : List Jvm.Cond := [.code ⟨"StackPolicyKernelModel", "level", "(I)I"⟩ prog_8_method_8_code 2 (Option.some Jvm.ClassFile.FieldType.int),
  .methodLink "StackPolicyKernelLaw" 37 ⟨"StackPolicyKernelModel", "verdict", "()I"⟩,
  .instanceMethod ⟨"StackPolicyKernelModel", "verdict", "()I"⟩,
  .selects "StackPolicyKernelModel" ⟨"StackPolicyKernelModel", "verdict", "()I"⟩ ⟨"StackPolicyKernelModel", "verdict", "()I"⟩,
  .code ⟨"StackPolicyKernelModel", "verdict", "()I"⟩ prog_8_method_12_code 2 (Option.some Jvm.ClassFile.FieldType.int),
  .methodLink "StackPolicyKernelModel" 102 ⟨"StackPolicyKernelModel", "passes", "(I)Z"⟩,
  .instanceMethod ⟨"StackPolicyKernelModel", "passes", "(I)Z"⟩,
  .code ⟨"StackPolicyKernelModel", "passes", "(I)Z"⟩ prog_8_method_11_code 7 (Option.some Jvm.ClassFile.FieldType.boolean),
  .methodLink "StackPolicyKernelModel" 99 ⟨"StackPolicyKernelModel", "overhang", "(I)I"⟩,
  .instanceMethod ⟨"StackPolicyKernelModel", "overhang", "(I)I"⟩,
  .code ⟨"StackPolicyKernelModel", "overhang", "(I)I"⟩ prog_8_method_10_code 6 (Option.some Jvm.ClassFile.FieldType.int),
  .methodLink "StackPolicyKernelModel" 96 ⟨"StackPolicyKernelModel", "ceiling", "(I)I"⟩,
  .methodLink "StackPolicyKernelLaw" 47 ⟨"StackPolicyKernelModel", "release", "(II)I"⟩,
  .instanceMethod ⟨"StackPolicyKernelModel", "release", "(II)I"⟩,
  .selects "StackPolicyKernelModel" ⟨"StackPolicyKernelModel", "release", "(II)I"⟩ ⟨"StackPolicyKernelModel", "release", "(II)I"⟩,
  .code ⟨"StackPolicyKernelModel", "release", "(II)I"⟩ prog_8_method_13_code 3 (Option.some Jvm.ClassFile.FieldType.int),
  .methodLink "StackPolicyKernelLaw" 52 ⟨"StackPolicyKernelModel", "submit", "(I)Z"⟩,
  .instanceMethod ⟨"StackPolicyKernelModel", "submit", "(I)Z"⟩,
  .selects "StackPolicyKernelModel" ⟨"StackPolicyKernelModel", "submit", "(I)Z"⟩ ⟨"StackPolicyKernelModel", "submit", "(I)Z"⟩,
  .code ⟨"StackPolicyKernelModel", "submit", "(I)Z"⟩ prog_8_method_14_code 2 (Option.some Jvm.ClassFile.FieldType.boolean),
  .methodLink "StackPolicyKernelLaw" 72 ⟨"StackPolicyKernelModel", "holder", "(I)I"⟩,
  .instanceMethod ⟨"StackPolicyKernelModel", "holder", "(I)I"⟩,
  .selects "StackPolicyKernelModel" ⟨"StackPolicyKernelModel", "holder", "(I)I"⟩ ⟨"StackPolicyKernelModel", "holder", "(I)I"⟩,
  .code ⟨"StackPolicyKernelModel", "holder", "(I)I"⟩ prog_8_method_21_code 3 (Option.some Jvm.ClassFile.FieldType.int),
  .methodLink "StackPolicyKernelModel" 127 ⟨"StackPolicyKernelModel", "holds", "(II)Z"⟩,
  .instanceMethod ⟨"StackPolicyKernelModel", "holds", "(II)Z"⟩,
  .code ⟨"StackPolicyKernelModel", "holds", "(II)Z"⟩ prog_8_method_19_code 4 (Option.some Jvm.ClassFile.FieldType.boolean),
  .methodLink "StackPolicyKernelLaw" 76 ⟨"StackPolicyKernelModel", "systemCeiling", "()I"⟩,
  .instanceMethod ⟨"StackPolicyKernelModel", "systemCeiling", "()I"⟩,
  .selects "StackPolicyKernelModel" ⟨"StackPolicyKernelModel", "systemCeiling", "()I"⟩ ⟨"StackPolicyKernelModel", "systemCeiling", "()I"⟩,
  .code ⟨"StackPolicyKernelModel", "systemCeiling", "()I"⟩ prog_8_method_22_code 4 (Option.some Jvm.ClassFile.FieldType.int),
  .methodLink "StackPolicyKernelModel" 130 ⟨"StackPolicyKernelModel", "holder", "(I)I"⟩,
  .methodLink "StackPolicyKernelLaw" 56 ⟨"StackPolicyKernelModel", "step", "(I)I"⟩,
  .instanceMethod ⟨"StackPolicyKernelModel", "step", "(I)I"⟩,
  .selects "StackPolicyKernelModel" ⟨"StackPolicyKernelModel", "step", "(I)I"⟩ ⟨"StackPolicyKernelModel", "step", "(I)I"⟩,
  .code ⟨"StackPolicyKernelModel", "step", "(I)I"⟩ prog_8_method_28_code 5 (Option.some Jvm.ClassFile.FieldType.int),
  .methodLink "StackPolicyKernelModel" 177 ⟨"StackPolicyKernelModel", "tick", "()I"⟩,
  .instanceMethod ⟨"StackPolicyKernelModel", "tick", "()I"⟩,
  .code ⟨"StackPolicyKernelModel", "tick", "()I"⟩ prog_8_method_27_code 5 (Option.some Jvm.ClassFile.FieldType.int),
  .methodLink "StackPolicyKernelModel" 159 ⟨"StackPolicyKernelModel", "choice", "()I"⟩]
def pg_A14 : List Jvm.Cond := [.instanceMethod ⟨"StackPolicyKernelModel", "choice", "()I"⟩,
  .code ⟨"StackPolicyKernelModel", "choice", "()I"⟩ prog_8_method_23_code 5 (Option.some Jvm.ClassFile.FieldType.int),
  .methodLink "StackPolicyKernelModel" 133 ⟨"StackPolicyKernelModel", "inOrder", "(I)I"⟩,
  .instanceMethod ⟨"StackPolicyKernelModel", "inOrder", "(I)I"⟩,
  .code ⟨"StackPolicyKernelModel", "inOrder", "(I)I"⟩ prog_8_method_18_code 5 (Option.some Jvm.ClassFile.FieldType.int),
  .methodLink "StackPolicyKernelModel" 120 ⟨"StackPolicyKernelModel", "there", "(I)Z"⟩,
  .instanceMethod ⟨"StackPolicyKernelModel", "there", "(I)Z"⟩,
  .code ⟨"StackPolicyKernelModel", "there", "(I)Z"⟩ prog_8_method_15_code 2 (Option.some Jvm.ClassFile.FieldType.boolean),
  .methodLink "StackPolicyKernelModel" 123 ⟨"StackPolicyKernelModel", "earlier", "(II)Z"⟩,
  .instanceMethod ⟨"StackPolicyKernelModel", "earlier", "(II)Z"⟩,
  .code ⟨"StackPolicyKernelModel", "earlier", "(II)Z"⟩ prog_8_method_17_code 5 (Option.some Jvm.ClassFile.FieldType.boolean),
  .methodLink "StackPolicyKernelModel" 117 ⟨"StackPolicyKernelModel", "deadline", "(I)I"⟩,
  .instanceMethod ⟨"StackPolicyKernelModel", "deadline", "(I)I"⟩,
  .code ⟨"StackPolicyKernelModel", "deadline", "(I)I"⟩ prog_8_method_16_code 2 (Option.some Jvm.ClassFile.FieldType.int),
  .methodLink "StackPolicyKernelModel" 136 ⟨"StackPolicyKernelModel", "systemCeiling", "()I"⟩,
  .methodLink "StackPolicyKernelModel" 162 ⟨"StackPolicyKernelModel", "serve", "()I"⟩,
  .instanceMethod ⟨"StackPolicyKernelModel", "serve", "()I"⟩,
  .code ⟨"StackPolicyKernelModel", "serve", "()I"⟩ prog_8_method_24_code 3 (Option.some Jvm.ClassFile.FieldType.int),
  .methodLink "StackPolicyKernelModel" 165 ⟨"StackPolicyKernelModel", "work", "(I)I"⟩,
  .instanceMethod ⟨"StackPolicyKernelModel", "work", "(I)I"⟩,
  .code ⟨"StackPolicyKernelModel", "work", "(I)I"⟩ prog_8_method_26_code 6 (Option.some Jvm.ClassFile.FieldType.int),
  .methodLink "StackPolicyKernelModel" 146 ⟨"StackPolicyKernelModel", "holdsAny", "(I)Z"⟩,
  .instanceMethod ⟨"StackPolicyKernelModel", "holdsAny", "(I)Z"⟩,
  .code ⟨"StackPolicyKernelModel", "holdsAny", "(I)Z"⟩ prog_8_method_20_code 2 (Option.some Jvm.ClassFile.FieldType.boolean),
  .methodLink "StackPolicyKernelModel" 152 ⟨"StackPolicyKernelModel", "stop", "(II)V"⟩,
  .instanceMethod ⟨"StackPolicyKernelModel", "stop", "(II)V"⟩,
  .code ⟨"StackPolicyKernelModel", "stop", "(II)V"⟩ prog_8_method_25_code 4 (Option.none : Option Jvm.ClassFile.FieldType),
  .methodLink "StackPolicyKernelLaw" 60 ⟨"StackPolicyKernelModel", "time", "()I"⟩,
  .instanceMethod ⟨"StackPolicyKernelModel", "time", "()I"⟩,
  .selects "StackPolicyKernelModel" ⟨"StackPolicyKernelModel", "time", "()I"⟩ ⟨"StackPolicyKernelModel", "time", "()I"⟩,
  .code ⟨"StackPolicyKernelModel", "time", "()I"⟩ prog_8_method_29_code 1 (Option.some Jvm.ClassFile.FieldType.int),
  .methodLink "StackPolicyKernelLaw" 64 ⟨"StackPolicyKernelModel", "ran", "(I)I"⟩,
  .instanceMethod ⟨"StackPolicyKernelModel", "ran", "(I)I"⟩,
  .selects "StackPolicyKernelModel" ⟨"StackPolicyKernelModel", "ran", "(I)I"⟩ ⟨"StackPolicyKernelModel", "ran", "(I)I"⟩,
  .code ⟨"StackPolicyKernelModel", "ran", "(I)I"⟩ prog_8_method_30_code 2 (Option.some Jvm.ClassFile.FieldType.int),
  .methodLink "StackPolicyKernelLaw" 68 ⟨"StackPolicyKernelModel", "queued", "(I)I"⟩,
  .instanceMethod ⟨"StackPolicyKernelModel", "queued", "(I)I"⟩,
  .selects "StackPolicyKernelModel" ⟨"StackPolicyKernelModel", "queued", "(I)I"⟩ ⟨"StackPolicyKernelModel", "queued", "(I)I"⟩,
  .code ⟨"StackPolicyKernelModel", "queued", "(I)I"⟩ prog_8_method_31_code 3 (Option.some Jvm.ClassFile.FieldType.int),
  .methodLink "StackPolicyKernelLaw" 80 ⟨"StackPolicyKernelModel", "job", "(II)I"⟩]
def pg_A15 : List Jvm.Cond := [.instanceMethod ⟨"StackPolicyKernelModel", "job", "(II)I"⟩,
  .selects "StackPolicyKernelModel" ⟨"StackPolicyKernelModel", "job", "(II)I"⟩ ⟨"StackPolicyKernelModel", "job", "(II)I"⟩,
  .code ⟨"StackPolicyKernelModel", "job", "(II)I"⟩ prog_8_method_32_code 3 (Option.some Jvm.ClassFile.FieldType.int),
  .methodLink "StackPolicyKernelLaw" 84 ⟨"StackPolicyKernelModel", "misses", "(I)I"⟩,
  .instanceMethod ⟨"StackPolicyKernelModel", "misses", "(I)I"⟩,
  .selects "StackPolicyKernelModel" ⟨"StackPolicyKernelModel", "misses", "(I)I"⟩ ⟨"StackPolicyKernelModel", "misses", "(I)I"⟩,
  .code ⟨"StackPolicyKernelModel", "misses", "(I)I"⟩ prog_8_method_33_code 2 (Option.some Jvm.ClassFile.FieldType.int),
  .methodLink "StackPolicyKernelLaw" 88 ⟨"StackPolicyKernelModel", "worst", "(I)I"⟩,
  .instanceMethod ⟨"StackPolicyKernelModel", "worst", "(I)I"⟩,
  .selects "StackPolicyKernelModel" ⟨"StackPolicyKernelModel", "worst", "(I)I"⟩ ⟨"StackPolicyKernelModel", "worst", "(I)I"⟩,
  .code ⟨"StackPolicyKernelModel", "worst", "(I)I"⟩ prog_8_method_34_code 2 (Option.some Jvm.ClassFile.FieldType.int),
  .methodLink "StackPolicyKernelLaw" 92 ⟨"StackPolicyKernelModel", "serverFigure", "(I)I"⟩,
  .instanceMethod ⟨"StackPolicyKernelModel", "serverFigure", "(I)I"⟩,
  .selects "StackPolicyKernelModel" ⟨"StackPolicyKernelModel", "serverFigure", "(I)I"⟩ ⟨"StackPolicyKernelModel", "serverFigure", "(I)I"⟩,
  .code ⟨"StackPolicyKernelModel", "serverFigure", "(I)I"⟩ prog_8_method_35_code 4 (Option.some Jvm.ClassFile.FieldType.int),
  .methodLink "StackPolicyKernelLaw" 96 ⟨"StackPolicyKernelModel", "count", "(I)I"⟩,
  .instanceMethod ⟨"StackPolicyKernelModel", "count", "(I)I"⟩,
  .selects "StackPolicyKernelModel" ⟨"StackPolicyKernelModel", "count", "(I)I"⟩ ⟨"StackPolicyKernelModel", "count", "(I)I"⟩,
  .code ⟨"StackPolicyKernelModel", "count", "(I)I"⟩ prog_8_method_36_code 4 (Option.some Jvm.ClassFile.FieldType.int)]
def pg_AL : List Jvm.Cond := pg_A0 ++ (pg_A1 ++ (pg_A2 ++ (pg_A3 ++ (pg_A4 ++ (pg_A5 ++ (pg_A6 ++ (pg_A7 ++ (pg_A8 ++ (pg_A9 ++ (pg_A10 ++ (pg_A11 ++ (pg_A12 ++ (pg_A13 ++ (pg_A14 ++ (pg_A15)))))))))))))))
def pg_NL : List Jvm.Cond := [.methodLinkNest "StackPolicyKernel" 21 ⟨"StackPolicyKernel$Server", "<init>", "()V"⟩ "StackPolicyKernel",
  .methodLinkNest "StackPolicyKernel" 28 ⟨"StackPolicyKernel$Trace", "<init>", "()V"⟩ "StackPolicyKernel",
  .methodLinkNest "StackPolicyKernel$Task" 19 ⟨"StackPolicyKernel$Job", "<init>", "()V"⟩ "StackPolicyKernel"]
def pg_S : mm_S := (pg_G, 7, pg_ck, pg_ek, pg_mb, pg_mn, pg_mr, pg_AL, pg_km, 104, pg_NL)
end
section
/-! the tables keep to the rules -/
set_option maxRecDepth 100000 in
theorem pg_A0_eq : pg_A0 = [0, 1, 2, 3, 4, 5, 6, 7, 8, 9, 10, 11, 12, 13, 14, 15, 16, 17, 18, 19, 20, 21, 22, 23, 24, 25, 26, 27, 28, 29, 30, 31, 32, 33, 34, 35, 36, 37, 38, 39].filterMap (fun i => lw_tbl[i]?) := rfl
theorem pg_A0_in : ∀ w ∈ pg_A0, w ∈ lw_tbl := by
  intro w hw
  rw [pg_A0_eq] at hw
  obtain ⟨i, -, hi⟩ := List.mem_filterMap.mp hw
  exact List.mem_of_getElem? hi
set_option maxRecDepth 100000 in
theorem pg_A0_ok : pg_A0.all goodWord = true := by decide +kernel
set_option maxRecDepth 100000 in
theorem pg_A1_eq : pg_A1 = [40, 41, 42, 43, 44, 45, 46, 47, 49, 50, 52, 53, 54, 55, 56, 57, 58, 59, 60, 61, 62, 63, 64, 65, 66, 67, 68, 69, 71, 73, 75, 77, 79, 81, 83, 85, 88, 89, 90, 92].filterMap (fun i => lw_tbl[i]?) := rfl
theorem pg_A1_in : ∀ w ∈ pg_A1, w ∈ lw_tbl := by
  intro w hw
  rw [pg_A1_eq] at hw
  obtain ⟨i, -, hi⟩ := List.mem_filterMap.mp hw
  exact List.mem_of_getElem? hi
set_option maxRecDepth 100000 in
theorem pg_A1_ok : pg_A1.all goodWord = true := by decide +kernel
set_option maxRecDepth 100000 in
theorem pg_A2_eq : pg_A2 = [93, 94, 95, 96, 97, 98, 99, 100, 101, 102, 104, 106, 108, 111, 112, 113, 114, 115, 116, 117, 118, 119, 121, 123, 125, 127, 129, 131, 133, 136, 137, 138, 139, 140, 141, 142, 143, 144, 145, 147].filterMap (fun i => lw_tbl[i]?) := rfl
theorem pg_A2_in : ∀ w ∈ pg_A2, w ∈ lw_tbl := by
  intro w hw
  rw [pg_A2_eq] at hw
  obtain ⟨i, -, hi⟩ := List.mem_filterMap.mp hw
  exact List.mem_of_getElem? hi
set_option maxRecDepth 100000 in
theorem pg_A2_ok : pg_A2.all goodWord = true := by decide +kernel
set_option maxRecDepth 100000 in
theorem pg_A3_eq : pg_A3 = [148, 150, 151, 152, 153, 154, 155, 156, 157, 158, 159, 160, 161, 162, 163, 165, 167, 169, 171, 173, 175, 178, 179, 180, 181, 182, 183, 184, 185, 186, 187, 188, 189, 190, 191, 192, 193, 194, 195, 197].filterMap (fun i => lw_tbl[i]?) := rfl
theorem pg_A3_in : ∀ w ∈ pg_A3, w ∈ lw_tbl := by
  intro w hw
  rw [pg_A3_eq] at hw
  obtain ⟨i, -, hi⟩ := List.mem_filterMap.mp hw
  exact List.mem_of_getElem? hi
set_option maxRecDepth 100000 in
theorem pg_A3_ok : pg_A3.all goodWord = true := by decide +kernel
set_option maxRecDepth 100000 in
theorem pg_A4_eq : pg_A4 = [199, 201, 203, 205, 207, 209, 211, 213, 216, 217, 218, 219, 220, 222, 223, 224, 225, 226, 227, 228, 229, 230, 231, 232, 233, 234, 235, 236, 237, 238, 239, 240, 241, 242, 243, 244, 245, 246, 247, 248].filterMap (fun i => lw_tbl[i]?) := rfl
theorem pg_A4_in : ∀ w ∈ pg_A4, w ∈ lw_tbl := by
  intro w hw
  rw [pg_A4_eq] at hw
  obtain ⟨i, -, hi⟩ := List.mem_filterMap.mp hw
  exact List.mem_of_getElem? hi
set_option maxRecDepth 100000 in
theorem pg_A4_ok : pg_A4.all goodWord = true := by decide +kernel
set_option maxRecDepth 100000 in
theorem pg_A5_eq : pg_A5 = [249, 250, 252, 254, 257, 258, 259, 260, 261, 262, 263, 264, 265, 266, 267, 268, 269, 270, 271, 272, 273, 274, 275, 276, 277, 278, 279, 280, 282, 283, 284, 286, 287, 288, 289, 290, 291, 292, 293, 294].filterMap (fun i => lw_tbl[i]?) := rfl
theorem pg_A5_in : ∀ w ∈ pg_A5, w ∈ lw_tbl := by
  intro w hw
  rw [pg_A5_eq] at hw
  obtain ⟨i, -, hi⟩ := List.mem_filterMap.mp hw
  exact List.mem_of_getElem? hi
set_option maxRecDepth 100000 in
theorem pg_A5_ok : pg_A5.all goodWord = true := by decide +kernel
set_option maxRecDepth 100000 in
theorem pg_A6_eq : pg_A6 = [295, 296, 297, 298, 299, 300, 301, 302, 303, 304, 305, 306, 307, 308, 309, 310, 311, 312, 313, 314, 315, 316, 317, 318, 319, 320, 321, 322, 323, 324, 325, 326, 327, 328, 329, 330, 331, 332, 333, 335].filterMap (fun i => lw_tbl[i]?) := rfl
theorem pg_A6_in : ∀ w ∈ pg_A6, w ∈ lw_tbl := by
  intro w hw
  rw [pg_A6_eq] at hw
  obtain ⟨i, -, hi⟩ := List.mem_filterMap.mp hw
  exact List.mem_of_getElem? hi
set_option maxRecDepth 100000 in
theorem pg_A6_ok : pg_A6.all goodWord = true := by decide +kernel
set_option maxRecDepth 100000 in
theorem pg_A7_eq : pg_A7 = [336, 337, 339, 340, 341, 343, 344, 345, 347, 348, 349, 351, 352, 353, 355, 356, 357, 358, 359, 360, 361, 363, 364, 365, 366, 367, 368, 369, 370, 371, 372, 373, 374, 375, 376, 377, 378, 379, 380, 381].filterMap (fun i => lw_tbl[i]?) := rfl
theorem pg_A7_in : ∀ w ∈ pg_A7, w ∈ lw_tbl := by
  intro w hw
  rw [pg_A7_eq] at hw
  obtain ⟨i, -, hi⟩ := List.mem_filterMap.mp hw
  exact List.mem_of_getElem? hi
set_option maxRecDepth 100000 in
theorem pg_A7_ok : pg_A7.all goodWord = true := by decide +kernel
set_option maxRecDepth 100000 in
theorem pg_A8_eq : pg_A8 = [382, 384, 385, 386, 387, 388, 389, 390, 391, 392, 393, 394, 395, 396, 397, 398, 400, 401, 402, 403, 404, 405, 406, 407, 408, 409, 410, 411, 412, 413, 414, 416, 417, 418, 419, 420, 421, 422, 423, 424].filterMap (fun i => lw_tbl[i]?) := rfl
theorem pg_A8_in : ∀ w ∈ pg_A8, w ∈ lw_tbl := by
  intro w hw
  rw [pg_A8_eq] at hw
  obtain ⟨i, -, hi⟩ := List.mem_filterMap.mp hw
  exact List.mem_of_getElem? hi
set_option maxRecDepth 100000 in
theorem pg_A8_ok : pg_A8.all goodWord = true := by decide +kernel
set_option maxRecDepth 100000 in
theorem pg_A9_eq : pg_A9 = [425, 426, 427, 428, 429, 430, 431, 433, 434, 435, 436, 437, 438, 439, 440, 441, 442, 443, 444, 445, 446, 447, 448, 449, 450, 451, 452, 453, 454, 455, 456, 457, 458, 459, 460, 461, 462, 463, 464, 465].filterMap (fun i => lw_tbl[i]?) := rfl
theorem pg_A9_in : ∀ w ∈ pg_A9, w ∈ lw_tbl := by
  intro w hw
  rw [pg_A9_eq] at hw
  obtain ⟨i, -, hi⟩ := List.mem_filterMap.mp hw
  exact List.mem_of_getElem? hi
set_option maxRecDepth 100000 in
theorem pg_A9_ok : pg_A9.all goodWord = true := by decide +kernel
set_option maxRecDepth 100000 in
theorem pg_A10_eq : pg_A10 = [466, 467, 468, 469, 470, 471, 472, 473, 474, 475, 476, 477, 478, 479, 481, 482, 483, 484, 485, 486, 487, 488, 489, 490, 491, 492, 493, 494, 495, 496, 497, 498, 499, 500, 501, 502, 503, 504, 505, 506].filterMap (fun i => lw_tbl[i]?) := rfl
theorem pg_A10_in : ∀ w ∈ pg_A10, w ∈ lw_tbl := by
  intro w hw
  rw [pg_A10_eq] at hw
  obtain ⟨i, -, hi⟩ := List.mem_filterMap.mp hw
  exact List.mem_of_getElem? hi
set_option maxRecDepth 100000 in
theorem pg_A10_ok : pg_A10.all goodWord = true := by decide +kernel
set_option maxRecDepth 100000 in
theorem pg_A11_eq : pg_A11 = [507, 508, 509, 510, 511, 512, 513, 514, 515, 516, 517, 518, 519, 520, 521, 522, 523, 524, 526, 528, 530, 532, 534, 536, 538, 540, 542, 544, 546, 548, 550, 552, 554, 556, 558, 560, 562, 564, 566, 568].filterMap (fun i => lw_tbl[i]?) := rfl
theorem pg_A11_in : ∀ w ∈ pg_A11, w ∈ lw_tbl := by
  intro w hw
  rw [pg_A11_eq] at hw
  obtain ⟨i, -, hi⟩ := List.mem_filterMap.mp hw
  exact List.mem_of_getElem? hi
set_option maxRecDepth 100000 in
theorem pg_A11_ok : pg_A11.all goodWord = true := by decide +kernel
set_option maxRecDepth 100000 in
theorem pg_A12_eq : pg_A12 = [570, 572, 574, 576, 578, 580, 582, 584, 586, 588, 590, 592, 595, 596, 597, 598, 599, 600, 601, 602, 603, 604, 605, 606, 608, 609, 610, 611, 612, 613, 614, 615, 616, 617, 618, 619, 620, 621, 622, 624].filterMap (fun i => lw_tbl[i]?) := rfl
theorem pg_A12_in : ∀ w ∈ pg_A12, w ∈ lw_tbl := by
  intro w hw
  rw [pg_A12_eq] at hw
  obtain ⟨i, -, hi⟩ := List.mem_filterMap.mp hw
  exact List.mem_of_getElem? hi
set_option maxRecDepth 100000 in
theorem pg_A12_ok : pg_A12.all goodWord = true := by decide +kernel
set_option maxRecDepth 100000 in
theorem pg_A13_eq : pg_A13 = [625, 626, 627, 628, 629, 630, 632, 633, 634, 636, 637, 638, 639, 640, 641, 642, 643, 644, 645, 646, 647, 648, 649, 650, 651, 653, 654, 655, 656, 657, 658, 659, 660, 661, 662, 663, 664, 666, 667, 668].filterMap (fun i => lw_tbl[i]?) := rfl
theorem pg_A13_in : ∀ w ∈ pg_A13, w ∈ lw_tbl := by
  intro w hw
  rw [pg_A13_eq] at hw
  obtain ⟨i, -, hi⟩ := List.mem_filterMap.mp hw
  exact List.mem_of_getElem? hi
set_option maxRecDepth 100000 in
theorem pg_A13_ok : pg_A13.all goodWord = true := by decide +kernel
set_option maxRecDepth 100000 in
theorem pg_A14_eq : pg_A14 = [670, 671, 672, 674, 675, 676, 678, 679, 680, 682, 683, 684, 686, 687, 688, 689, 691, 692, 693, 695, 696, 697, 699, 700, 701, 703, 704, 705, 706, 707, 708, 709, 710, 711, 712, 713, 714, 715, 716, 717].filterMap (fun i => lw_tbl[i]?) := rfl
theorem pg_A14_in : ∀ w ∈ pg_A14, w ∈ lw_tbl := by
  intro w hw
  rw [pg_A14_eq] at hw
  obtain ⟨i, -, hi⟩ := List.mem_filterMap.mp hw
  exact List.mem_of_getElem? hi
set_option maxRecDepth 100000 in
theorem pg_A14_ok : pg_A14.all goodWord = true := by decide +kernel
set_option maxRecDepth 100000 in
theorem pg_A15_eq : pg_A15 = [718, 719, 720, 721, 722, 723, 724, 725, 726, 727, 728, 729, 730, 731, 732, 733, 734, 735, 736].filterMap (fun i => lw_tbl[i]?) := rfl
theorem pg_A15_in : ∀ w ∈ pg_A15, w ∈ lw_tbl := by
  intro w hw
  rw [pg_A15_eq] at hw
  obtain ⟨i, -, hi⟩ := List.mem_filterMap.mp hw
  exact List.mem_of_getElem? hi
set_option maxRecDepth 100000 in
theorem pg_A15_ok : pg_A15.all goodWord = true := by decide +kernel
theorem pg_AL_in : ∀ w ∈ pg_AL, w ∈ lw_tbl := by
  unfold pg_AL
  exact List.forall_mem_append.mpr ⟨pg_A0_in, List.forall_mem_append.mpr ⟨pg_A1_in, List.forall_mem_append.mpr ⟨pg_A2_in, List.forall_mem_append.mpr ⟨pg_A3_in, List.forall_mem_append.mpr ⟨pg_A4_in, List.forall_mem_append.mpr ⟨pg_A5_in, List.forall_mem_append.mpr ⟨pg_A6_in, List.forall_mem_append.mpr ⟨pg_A7_in, List.forall_mem_append.mpr ⟨pg_A8_in, List.forall_mem_append.mpr ⟨pg_A9_in, List.forall_mem_append.mpr ⟨pg_A10_in, List.forall_mem_append.mpr ⟨pg_A11_in, List.forall_mem_append.mpr ⟨pg_A12_in, List.forall_mem_append.mpr ⟨pg_A13_in, List.forall_mem_append.mpr ⟨pg_A14_in, pg_A15_in⟩⟩⟩⟩⟩⟩⟩⟩⟩⟩⟩⟩⟩⟩⟩
set_option maxRecDepth 100000 in
theorem pg_NL_eq : pg_NL = [51, 91, 149].filterMap (fun i => lw_tbl[i]?) := by decide +kernel
theorem pg_NL_in : ∀ w ∈ pg_NL, w ∈ lw_tbl := by
  intro w hw
  rw [pg_NL_eq] at hw
  obtain ⟨i, -, hi⟩ := List.mem_filterMap.mp hw
  exact List.mem_of_getElem? hi
theorem pg_AL_good : ∀ w ∈ mm_AL pg_S, (w.onTables && w.keeps) = true ∨ ∃ ty, w = .arrayClass ty := by
  have h : ∀ w ∈ pg_AL, goodWord w = true := by
    unfold pg_AL
    exact List.forall_mem_append.mpr ⟨(List.all_eq_true.mp pg_A0_ok), List.forall_mem_append.mpr ⟨(List.all_eq_true.mp pg_A1_ok), List.forall_mem_append.mpr ⟨(List.all_eq_true.mp pg_A2_ok), List.forall_mem_append.mpr ⟨(List.all_eq_true.mp pg_A3_ok), List.forall_mem_append.mpr ⟨(List.all_eq_true.mp pg_A4_ok), List.forall_mem_append.mpr ⟨(List.all_eq_true.mp pg_A5_ok), List.forall_mem_append.mpr ⟨(List.all_eq_true.mp pg_A6_ok), List.forall_mem_append.mpr ⟨(List.all_eq_true.mp pg_A7_ok), List.forall_mem_append.mpr ⟨(List.all_eq_true.mp pg_A8_ok), List.forall_mem_append.mpr ⟨(List.all_eq_true.mp pg_A9_ok), List.forall_mem_append.mpr ⟨(List.all_eq_true.mp pg_A10_ok), List.forall_mem_append.mpr ⟨(List.all_eq_true.mp pg_A11_ok), List.forall_mem_append.mpr ⟨(List.all_eq_true.mp pg_A12_ok), List.forall_mem_append.mpr ⟨(List.all_eq_true.mp pg_A13_ok), List.forall_mem_append.mpr ⟨(List.all_eq_true.mp pg_A14_ok), (List.all_eq_true.mp pg_A15_ok)⟩⟩⟩⟩⟩⟩⟩⟩⟩⟩⟩⟩⟩⟩⟩
  exact fun w hw => good_of_word (h w hw)
theorem pg_NL_good : mm_NG pg_S := by
  intro w hw
  have h : w ∈ pg_NL := hw
  unfold pg_NL at h
  simp only [List.mem_cons, List.not_mem_nil, or_false] at h
  rcases h with rfl | rfl | rfl <;> exact ⟨_, _, _, _, rfl⟩
end
section
/-! the classes -/
set_option maxRecDepth 100000 in
theorem pg_u0 : u_ws (pg_ck 0).1 (pg_ck 0).2.1 (pg_sl 0) = [101, 102, 103, 104, 105, 106, 107, 108].filterMap (fun i => pg_AL[i]?) := by decide +kernel
set_option maxRecDepth 100000 in
theorem pg_c0 : mm_cok pg_S 0 := by
  refine ⟨fun w hw => ?_, List.mem_of_getElem? (i := 40) (by decide +kernel), List.mem_of_getElem? (i := 31) (by decide +kernel), ?_, ?_, ?_⟩
  · have hw : w ∈ u_ws (pg_ck 0).1 (pg_ck 0).2.1 (pg_sl 0) := hw
    rw [pg_u0] at hw
    obtain ⟨i, -, hi⟩ := List.mem_filterMap.mp hw
    exact List.mem_of_getElem? hi
  · show ∀ j, j < pg_sl 0 → parseFieldDescriptor ((pg_ck 0).2.1 j).2.2.1 = some (pg_ft 0 j)
    decide +kernel
  · show ∀ a, a < pg_sl 0 → ∀ b, b < pg_sl 0 → a ≠ b → ((pg_ck 0).2.1 a).2.1 ≠ ((pg_ck 0).2.1 b).2.1
    decide +kernel
  · show ∀ j, j < pg_sl 0 → mm_pt (pg_ft 0 j) = true
    decide +kernel
set_option maxRecDepth 100000 in
theorem pg_u1 : u_ws (pg_ck 1).1 (pg_ck 1).2.1 (pg_sl 1) = [67, 68, 69, 70, 71, 72, 73, 74, 75].filterMap (fun i => pg_AL[i]?) := by decide +kernel
set_option maxRecDepth 100000 in
theorem pg_c1 : mm_cok pg_S 1 := by
  refine ⟨fun w hw => ?_, List.mem_of_getElem? (i := 49) (by decide +kernel), List.mem_of_getElem? (i := 32) (by decide +kernel), ?_, ?_, ?_⟩
  · have hw : w ∈ u_ws (pg_ck 1).1 (pg_ck 1).2.1 (pg_sl 1) := hw
    rw [pg_u1] at hw
    obtain ⟨i, -, hi⟩ := List.mem_filterMap.mp hw
    exact List.mem_of_getElem? hi
  · show ∀ j, j < pg_sl 1 → parseFieldDescriptor ((pg_ck 1).2.1 j).2.2.1 = some (pg_ft 1 j)
    decide +kernel
  · show ∀ a, a < pg_sl 1 → ∀ b, b < pg_sl 1 → a ≠ b → ((pg_ck 1).2.1 a).2.1 ≠ ((pg_ck 1).2.1 b).2.1
    decide +kernel
  · show ∀ j, j < pg_sl 1 → mm_pt (pg_ft 1 j) = true
    decide +kernel
set_option maxRecDepth 100000 in
theorem pg_u2 : u_ws (pg_ck 2).1 (pg_ck 2).2.1 (pg_sl 2) = [89, 90, 91, 92].filterMap (fun i => pg_AL[i]?) := by decide +kernel
set_option maxRecDepth 100000 in
theorem pg_c2 : mm_cok pg_S 2 := by
  refine ⟨fun w hw => ?_, List.mem_of_getElem? (i := 78) (by decide +kernel), List.mem_of_getElem? (i := 33) (by decide +kernel), ?_, ?_, ?_⟩
  · have hw : w ∈ u_ws (pg_ck 2).1 (pg_ck 2).2.1 (pg_sl 2) := hw
    rw [pg_u2] at hw
    obtain ⟨i, -, hi⟩ := List.mem_filterMap.mp hw
    exact List.mem_of_getElem? hi
  · show ∀ j, j < pg_sl 2 → parseFieldDescriptor ((pg_ck 2).2.1 j).2.2.1 = some (pg_ft 2 j)
    decide +kernel
  · show ∀ a, a < pg_sl 2 → ∀ b, b < pg_sl 2 → a ≠ b → ((pg_ck 2).2.1 a).2.1 ≠ ((pg_ck 2).2.1 b).2.1
    decide +kernel
  · show ∀ j, j < pg_sl 2 → mm_pt (pg_ft 2 j) = true
    decide +kernel
set_option maxRecDepth 100000 in
theorem pg_u3 : u_ws (pg_ck 3).1 (pg_ck 3).2.1 (pg_sl 3) = [158, 159, 160, 161, 162, 163, 164, 165, 166, 167].filterMap (fun i => pg_AL[i]?) := by decide +kernel
set_option maxRecDepth 100000 in
theorem pg_c3 : mm_cok pg_S 3 := by
  refine ⟨fun w hw => ?_, List.mem_of_getElem? (i := 113) (by decide +kernel), List.mem_of_getElem? (i := 35) (by decide +kernel), ?_, ?_, ?_⟩
  · have hw : w ∈ u_ws (pg_ck 3).1 (pg_ck 3).2.1 (pg_sl 3) := hw
    rw [pg_u3] at hw
    obtain ⟨i, -, hi⟩ := List.mem_filterMap.mp hw
    exact List.mem_of_getElem? hi
  · show ∀ j, j < pg_sl 3 → parseFieldDescriptor ((pg_ck 3).2.1 j).2.2.1 = some (pg_ft 3 j)
    decide +kernel
  · show ∀ a, a < pg_sl 3 → ∀ b, b < pg_sl 3 → a ≠ b → ((pg_ck 3).2.1 a).2.1 ≠ ((pg_ck 3).2.1 b).2.1
    decide +kernel
  · show ∀ j, j < pg_sl 3 → mm_pt (pg_ft 3 j) = true
    decide +kernel
set_option maxRecDepth 100000 in
theorem pg_u4 : u_ws (pg_ck 4).1 (pg_ck 4).2.1 (pg_sl 4) = [201, 202, 203].filterMap (fun i => pg_AL[i]?) := by decide +kernel
set_option maxRecDepth 100000 in
theorem pg_c4 : mm_cok pg_S 4 := by
  refine ⟨fun w hw => ?_, List.mem_of_getElem? (i := 190) (by decide +kernel), List.mem_of_getElem? (i := 37) (by decide +kernel), ?_, ?_, ?_⟩
  · have hw : w ∈ u_ws (pg_ck 4).1 (pg_ck 4).2.1 (pg_sl 4) := hw
    rw [pg_u4] at hw
    obtain ⟨i, -, hi⟩ := List.mem_filterMap.mp hw
    exact List.mem_of_getElem? hi
  · show ∀ j, j < pg_sl 4 → parseFieldDescriptor ((pg_ck 4).2.1 j).2.2.1 = some (pg_ft 4 j)
    decide +kernel
  · show ∀ a, a < pg_sl 4 → ∀ b, b < pg_sl 4 → a ≠ b → ((pg_ck 4).2.1 a).2.1 ≠ ((pg_ck 4).2.1 b).2.1
    decide +kernel
  · show ∀ j, j < pg_sl 4 → mm_pt (pg_ft 4 j) = true
    decide +kernel
set_option maxRecDepth 100000 in
theorem pg_u5 : u_ws (pg_ck 5).1 (pg_ck 5).2.1 (pg_sl 5) = [134, 135, 136, 137, 138, 139, 140].filterMap (fun i => pg_AL[i]?) := by decide +kernel
set_option maxRecDepth 100000 in
theorem pg_c5 : mm_cok pg_S 5 := by
  refine ⟨fun w hw => ?_, List.mem_of_getElem? (i := 120) (by decide +kernel), List.mem_of_getElem? (i := 36) (by decide +kernel), ?_, ?_, ?_⟩
  · have hw : w ∈ u_ws (pg_ck 5).1 (pg_ck 5).2.1 (pg_sl 5) := hw
    rw [pg_u5] at hw
    obtain ⟨i, -, hi⟩ := List.mem_filterMap.mp hw
    exact List.mem_of_getElem? hi
  · show ∀ j, j < pg_sl 5 → parseFieldDescriptor ((pg_ck 5).2.1 j).2.2.1 = some (pg_ft 5 j)
    decide +kernel
  · show ∀ a, a < pg_sl 5 → ∀ b, b < pg_sl 5 → a ≠ b → ((pg_ck 5).2.1 a).2.1 ≠ ((pg_ck 5).2.1 b).2.1
    decide +kernel
  · show ∀ j, j < pg_sl 5 → mm_pt (pg_ft 5 j) = true
    decide +kernel
set_option maxRecDepth 100000 in
theorem pg_u6 : u_ws (pg_ck 6).1 (pg_ck 6).2.1 (pg_sl 6) = [457, 458, 459, 460, 461, 462, 463, 464, 465, 466, 467, 468, 469, 470, 471, 472, 473, 474, 475, 476, 477, 478, 479, 480, 481, 482, 483, 484, 485, 486, 487, 488, 489, 490, 491].filterMap (fun i => pg_AL[i]?) := by decide +kernel
set_option maxRecDepth 100000 in
theorem pg_c6 : mm_cok pg_S 6 := by
  refine ⟨fun w hw => ?_, List.mem_of_getElem? (i := 417) (by decide +kernel), List.mem_of_getElem? (i := 34) (by decide +kernel), ?_, ?_, ?_⟩
  · have hw : w ∈ u_ws (pg_ck 6).1 (pg_ck 6).2.1 (pg_sl 6) := hw
    rw [pg_u6] at hw
    obtain ⟨i, -, hi⟩ := List.mem_filterMap.mp hw
    exact List.mem_of_getElem? hi
  · show ∀ j, j < pg_sl 6 → parseFieldDescriptor ((pg_ck 6).2.1 j).2.2.1 = some (pg_ft 6 j)
    decide +kernel
  · show ∀ a, a < pg_sl 6 → ∀ b, b < pg_sl 6 → a ≠ b → ((pg_ck 6).2.1 a).2.1 ≠ ((pg_ck 6).2.1 b).2.1
    decide +kernel
  · show ∀ j, j < pg_sl 6 → mm_pt (pg_ft 6 j) = true
    decide +kernel
theorem pg_cok : ∀ ci, ci < 7 → mm_cok pg_S ci
  | 0, _ => pg_c0
  | 1, _ => pg_c1
  | 2, _ => pg_c2
  | 3, _ => pg_c3
  | 4, _ => pg_c4
  | 5, _ => pg_c5
  | 6, _ => pg_c6
  | _ + 7, h => absurd h (by omega)
end
section
/-! the methods -/
set_option maxRecDepth 100000 in
theorem pg_m0 : mm_mok pg_S 0 := ⟨⟨by decide +kernel, List.mem_of_getElem? (i := 193) (by decide +kernel), List.mem_of_getElem? (i := 37) (by decide +kernel), by decide +kernel, by decide +kernel⟩, ⟨by decide, by decide⟩, Or.inl ⟨rfl, rfl⟩, Or.inr (Or.inr ⟨Or.inl rfl, by decide +kernel, List.mem_of_getElem? (i := 192) (by decide +kernel), rfl, rfl⟩)⟩
set_option maxRecDepth 100000 in
theorem pg_m1 : mm_mok pg_S 1 := ⟨⟨by decide +kernel, List.mem_of_getElem? (i := 185) (by decide +kernel), List.mem_of_getElem? (i := 37) (by decide +kernel), by decide +kernel, by decide +kernel⟩, ⟨by decide, by decide⟩, Or.inr (Or.inr ⟨rfl, rfl⟩), Or.inr (Or.inl ⟨rfl, by decide +kernel, List.mem_of_getElem? (i := 183) (by decide +kernel), List.mem_of_getElem? (i := 184) (by decide +kernel), by decide, rfl⟩)⟩
set_option maxRecDepth 100000 in
theorem pg_m2 : mm_mok pg_S 2 := ⟨⟨by decide +kernel, List.mem_of_getElem? (i := 315) (by decide +kernel), List.mem_of_getElem? (i := 37) (by decide +kernel), by decide +kernel, by decide +kernel⟩, ⟨by decide, by decide⟩, Or.inr (Or.inr ⟨rfl, rfl⟩), Or.inr (Or.inl ⟨rfl, by decide +kernel, List.mem_of_getElem? (i := 313) (by decide +kernel), List.mem_of_getElem? (i := 314) (by decide +kernel), by decide, rfl⟩)⟩
set_option maxRecDepth 100000 in
theorem pg_m3 : mm_mok pg_S 3 := ⟨⟨by decide +kernel, List.mem_of_getElem? (i := 122) (by decide +kernel), List.mem_of_getElem? (i := 36) (by decide +kernel), by decide +kernel, by decide +kernel⟩, ⟨by decide, by decide⟩, Or.inl ⟨rfl, rfl⟩, Or.inr (Or.inr ⟨Or.inr rfl, by decide +kernel, List.mem_of_getElem? (i := 121) (by decide +kernel), rfl, rfl⟩)⟩
set_option maxRecDepth 100000 in
theorem pg_m4 : mm_mok pg_S 4 := ⟨⟨by decide +kernel, List.mem_of_getElem? (i := 257) (by decide +kernel), List.mem_of_getElem? (i := 36) (by decide +kernel), by decide +kernel, by decide +kernel⟩, ⟨by decide, by decide⟩, Or.inr (Or.inr ⟨rfl, rfl⟩), Or.inr (Or.inl ⟨rfl, by decide +kernel, List.mem_of_getElem? (i := 255) (by decide +kernel), List.mem_of_getElem? (i := 256) (by decide +kernel), by decide, rfl⟩)⟩
set_option maxRecDepth 100000 in
theorem pg_m5 : mm_mok pg_S 5 := ⟨⟨by decide +kernel, List.mem_of_getElem? (i := 253) (by decide +kernel), List.mem_of_getElem? (i := 36) (by decide +kernel), by decide +kernel, by decide +kernel⟩, ⟨by decide, by decide⟩, Or.inr (Or.inr ⟨rfl, rfl⟩), Or.inr (Or.inl ⟨rfl, by decide +kernel, List.mem_of_getElem? (i := 251) (by decide +kernel), List.mem_of_getElem? (i := 252) (by decide +kernel), by decide, rfl⟩)⟩
set_option maxRecDepth 100000 in
theorem pg_m6 : mm_mok pg_S 6 := ⟨⟨by decide +kernel, List.mem_of_getElem? (i := 299) (by decide +kernel), List.mem_of_getElem? (i := 36) (by decide +kernel), by decide +kernel, by decide +kernel⟩, ⟨by decide, by decide⟩, Or.inr (Or.inr ⟨rfl, rfl⟩), Or.inr (Or.inl ⟨rfl, by decide +kernel, List.mem_of_getElem? (i := 297) (by decide +kernel), List.mem_of_getElem? (i := 298) (by decide +kernel), by decide, rfl⟩)⟩
set_option maxRecDepth 100000 in
theorem pg_m7 : mm_mok pg_S 7 := ⟨⟨by decide +kernel, List.mem_of_getElem? (i := 261) (by decide +kernel), List.mem_of_getElem? (i := 36) (by decide +kernel), by decide +kernel, by decide +kernel⟩, ⟨by decide, by decide⟩, Or.inl ⟨rfl, rfl⟩, Or.inr (Or.inl ⟨rfl, by decide +kernel, List.mem_of_getElem? (i := 259) (by decide +kernel), List.mem_of_getElem? (i := 260) (by decide +kernel), by decide, rfl⟩)⟩
set_option maxRecDepth 100000 in
theorem pg_m8 : mm_mok pg_S 8 := ⟨⟨by decide +kernel, List.mem_of_getElem? (i := 341) (by decide +kernel), List.mem_of_getElem? (i := 36) (by decide +kernel), by decide +kernel, by decide +kernel⟩, ⟨by decide, by decide⟩, Or.inl ⟨rfl, rfl⟩, Or.inr (Or.inl ⟨rfl, by decide +kernel, List.mem_of_getElem? (i := 339) (by decide +kernel), List.mem_of_getElem? (i := 340) (by decide +kernel), by decide, rfl⟩)⟩
set_option maxRecDepth 100000 in
theorem pg_m9 : mm_mok pg_S 9 := ⟨⟨by decide +kernel, List.mem_of_getElem? (i := 388) (by decide +kernel), List.mem_of_getElem? (i := 36) (by decide +kernel), by decide +kernel, by decide +kernel⟩, ⟨by decide, by decide⟩, Or.inr (Or.inl ⟨rfl, rfl⟩), Or.inr (Or.inl ⟨rfl, by decide +kernel, List.mem_of_getElem? (i := 386) (by decide +kernel), List.mem_of_getElem? (i := 387) (by decide +kernel), by decide, rfl⟩)⟩
set_option maxRecDepth 100000 in
theorem pg_m10 : mm_mok pg_S 10 := ⟨⟨by decide +kernel, List.mem_of_getElem? (i := 116) (by decide +kernel), List.mem_of_getElem? (i := 35) (by decide +kernel), by decide +kernel, by decide +kernel⟩, ⟨by decide, by decide⟩, Or.inl ⟨rfl, rfl⟩, Or.inr (Or.inr ⟨Or.inl rfl, by decide +kernel, List.mem_of_getElem? (i := 115) (by decide +kernel), rfl, rfl⟩)⟩
set_option maxRecDepth 100000 in
theorem pg_m11 : mm_mok pg_S 11 := ⟨⟨by decide +kernel, List.mem_of_getElem? (i := 207) (by decide +kernel), List.mem_of_getElem? (i := 35) (by decide +kernel), by decide +kernel, by decide +kernel⟩, ⟨by decide, by decide⟩, Or.inr (Or.inl ⟨rfl, rfl⟩), Or.inr (Or.inl ⟨rfl, by decide +kernel, List.mem_of_getElem? (i := 205) (by decide +kernel), List.mem_of_getElem? (i := 206) (by decide +kernel), by decide, rfl⟩)⟩
set_option maxRecDepth 100000 in
theorem pg_m12 : mm_mok pg_S 12 := ⟨⟨by decide +kernel, List.mem_of_getElem? (i := 181) (by decide +kernel), List.mem_of_getElem? (i := 35) (by decide +kernel), by decide +kernel, by decide +kernel⟩, ⟨by decide, by decide⟩, Or.inr (Or.inr ⟨rfl, rfl⟩), Or.inr (Or.inl ⟨rfl, by decide +kernel, List.mem_of_getElem? (i := 179) (by decide +kernel), List.mem_of_getElem? (i := 180) (by decide +kernel), by decide, rfl⟩)⟩
set_option maxRecDepth 100000 in
theorem pg_m13 : mm_mok pg_S 13 := ⟨⟨by decide +kernel, List.mem_of_getElem? (i := 189) (by decide +kernel), List.mem_of_getElem? (i := 35) (by decide +kernel), by decide +kernel, by decide +kernel⟩, ⟨by decide, by decide⟩, Or.inl ⟨rfl, rfl⟩, Or.inr (Or.inl ⟨rfl, by decide +kernel, List.mem_of_getElem? (i := 187) (by decide +kernel), List.mem_of_getElem? (i := 188) (by decide +kernel), by decide, rfl⟩)⟩
set_option maxRecDepth 100000 in
theorem pg_m14 : mm_mok pg_S 14 := ⟨⟨by decide +kernel, List.mem_of_getElem? (i := 236) (by decide +kernel), List.mem_of_getElem? (i := 35) (by decide +kernel), by decide +kernel, by decide +kernel⟩, ⟨by decide, by decide⟩, Or.inr (Or.inl ⟨rfl, rfl⟩), Or.inr (Or.inl ⟨rfl, by decide +kernel, List.mem_of_getElem? (i := 234) (by decide +kernel), List.mem_of_getElem? (i := 235) (by decide +kernel), by decide, rfl⟩)⟩
set_option maxRecDepth 100000 in
theorem pg_m15 : mm_mok pg_S 15 := ⟨⟨by decide +kernel, List.mem_of_getElem? (i := 310) (by decide +kernel), List.mem_of_getElem? (i := 35) (by decide +kernel), by decide +kernel, by decide +kernel⟩, ⟨by decide, by decide⟩, Or.inr (Or.inr ⟨rfl, rfl⟩), Or.inr (Or.inl ⟨rfl, by decide +kernel, List.mem_of_getElem? (i := 308) (by decide +kernel), List.mem_of_getElem? (i := 309) (by decide +kernel), by decide, rfl⟩)⟩
set_option maxRecDepth 100000 in
theorem pg_m16 : mm_mok pg_S 16 := ⟨⟨by decide +kernel, List.mem_of_getElem? (i := 376) (by decide +kernel), List.mem_of_getElem? (i := 35) (by decide +kernel), by decide +kernel, by decide +kernel⟩, ⟨by decide, by decide⟩, Or.inr (Or.inr ⟨rfl, rfl⟩), Or.inr (Or.inl ⟨rfl, by decide +kernel, List.mem_of_getElem? (i := 374) (by decide +kernel), List.mem_of_getElem? (i := 375) (by decide +kernel), by decide, rfl⟩)⟩
set_option maxRecDepth 100000 in
theorem pg_m17 : mm_mok pg_S 17 := ⟨⟨by decide +kernel, List.mem_of_getElem? (i := 330) (by decide +kernel), List.mem_of_getElem? (i := 35) (by decide +kernel), by decide +kernel, by decide +kernel⟩, ⟨by decide, by decide⟩, Or.inr (Or.inr ⟨rfl, rfl⟩), Or.inr (Or.inl ⟨rfl, by decide +kernel, List.mem_of_getElem? (i := 328) (by decide +kernel), List.mem_of_getElem? (i := 329) (by decide +kernel), by decide, rfl⟩)⟩
set_option maxRecDepth 100000 in
theorem pg_m18 : mm_mok pg_S 18 := ⟨⟨by decide +kernel, List.mem_of_getElem? (i := 306) (by decide +kernel), List.mem_of_getElem? (i := 35) (by decide +kernel), by decide +kernel, by decide +kernel⟩, ⟨by decide, by decide⟩, Or.inr (Or.inl ⟨rfl, rfl⟩), Or.inr (Or.inl ⟨rfl, by decide +kernel, List.mem_of_getElem? (i := 304) (by decide +kernel), List.mem_of_getElem? (i := 305) (by decide +kernel), by decide, rfl⟩)⟩
set_option maxRecDepth 100000 in
theorem pg_m19 : mm_mok pg_S 19 := ⟨⟨by decide +kernel, List.mem_of_getElem? (i := 326) (by decide +kernel), List.mem_of_getElem? (i := 35) (by decide +kernel), by decide +kernel, by decide +kernel⟩, ⟨by decide, by decide⟩, Or.inl ⟨rfl, rfl⟩, Or.inr (Or.inl ⟨rfl, by decide +kernel, List.mem_of_getElem? (i := 324) (by decide +kernel), List.mem_of_getElem? (i := 325) (by decide +kernel), by decide, rfl⟩)⟩
set_option maxRecDepth 100000 in
theorem pg_m20 : mm_mok pg_S 20 := ⟨⟨by decide +kernel, List.mem_of_getElem? (i := 334) (by decide +kernel), List.mem_of_getElem? (i := 35) (by decide +kernel), by decide +kernel, by decide +kernel⟩, ⟨by decide, by decide⟩, Or.inl ⟨rfl, rfl⟩, Or.inr (Or.inl ⟨rfl, by decide +kernel, List.mem_of_getElem? (i := 332) (by decide +kernel), List.mem_of_getElem? (i := 333) (by decide +kernel), by decide, rfl⟩)⟩
set_option maxRecDepth 100000 in
theorem pg_m21 : mm_mok pg_S 21 := ⟨⟨by decide +kernel, List.mem_of_getElem? (i := 51) (by decide +kernel), List.mem_of_getElem? (i := 32) (by decide +kernel), by decide +kernel, by decide +kernel⟩, ⟨by decide, by decide⟩, Or.inl ⟨rfl, rfl⟩, Or.inr (Or.inr ⟨Or.inr rfl, by decide +kernel, List.mem_of_getElem? (i := 50) (by decide +kernel), rfl, rfl⟩)⟩
set_option maxRecDepth 100000 in
theorem pg_m22 : mm_mok pg_S 22 := ⟨⟨by decide +kernel, List.mem_of_getElem? (i := 241) (by decide +kernel), List.mem_of_getElem? (i := 32) (by decide +kernel), by decide +kernel, by decide +kernel⟩, ⟨by decide, by decide⟩, Or.inr (Or.inr ⟨rfl, rfl⟩), Or.inr (Or.inl ⟨rfl, by decide +kernel, List.mem_of_getElem? (i := 239) (by decide +kernel), List.mem_of_getElem? (i := 240) (by decide +kernel), by decide, rfl⟩)⟩
set_option maxRecDepth 100000 in
theorem pg_m23 : mm_mok pg_S 23 := ⟨⟨by decide +kernel, List.mem_of_getElem? (i := 218) (by decide +kernel), List.mem_of_getElem? (i := 32) (by decide +kernel), by decide +kernel, by decide +kernel⟩, ⟨by decide, by decide⟩, Or.inl ⟨rfl, rfl⟩, Or.inr (Or.inl ⟨rfl, by decide +kernel, List.mem_of_getElem? (i := 216) (by decide +kernel), List.mem_of_getElem? (i := 217) (by decide +kernel), by decide, rfl⟩)⟩
set_option maxRecDepth 100000 in
theorem pg_m24 : mm_mok pg_S 24 := ⟨⟨by decide +kernel, List.mem_of_getElem? (i := 269) (by decide +kernel), List.mem_of_getElem? (i := 32) (by decide +kernel), by decide +kernel, by decide +kernel⟩, ⟨by decide, by decide⟩, Or.inr (Or.inr ⟨rfl, rfl⟩), Or.inr (Or.inl ⟨rfl, by decide +kernel, List.mem_of_getElem? (i := 267) (by decide +kernel), List.mem_of_getElem? (i := 268) (by decide +kernel), by decide, rfl⟩)⟩
set_option maxRecDepth 100000 in
theorem pg_m25 : mm_mok pg_S 25 := ⟨⟨by decide +kernel, List.mem_of_getElem? (i := 273) (by decide +kernel), List.mem_of_getElem? (i := 32) (by decide +kernel), by decide +kernel, by decide +kernel⟩, ⟨by decide, by decide⟩, Or.inr (Or.inl ⟨rfl, rfl⟩), Or.inr (Or.inl ⟨rfl, by decide +kernel, List.mem_of_getElem? (i := 271) (by decide +kernel), List.mem_of_getElem? (i := 272) (by decide +kernel), by decide, rfl⟩)⟩
set_option maxRecDepth 100000 in
theorem pg_m26 : mm_mok pg_S 26 := ⟨⟨by decide +kernel, List.mem_of_getElem? (i := 319) (by decide +kernel), List.mem_of_getElem? (i := 32) (by decide +kernel), by decide +kernel, by decide +kernel⟩, ⟨by decide, by decide⟩, Or.inl ⟨rfl, rfl⟩, Or.inr (Or.inl ⟨rfl, by decide +kernel, List.mem_of_getElem? (i := 317) (by decide +kernel), List.mem_of_getElem? (i := 318) (by decide +kernel), by decide, rfl⟩)⟩
set_option maxRecDepth 100000 in
theorem pg_m27 : mm_mok pg_S 27 := ⟨⟨by decide +kernel, List.mem_of_getElem? (i := 408) (by decide +kernel), List.mem_of_getElem? (i := 32) (by decide +kernel), by decide +kernel, by decide +kernel⟩, ⟨by decide, by decide⟩, Or.inr (Or.inl ⟨rfl, rfl⟩), Or.inr (Or.inl ⟨rfl, by decide +kernel, List.mem_of_getElem? (i := 406) (by decide +kernel), List.mem_of_getElem? (i := 407) (by decide +kernel), by decide, rfl⟩)⟩
set_option maxRecDepth 100000 in
theorem pg_m28 : mm_mok pg_S 28 := ⟨⟨by decide +kernel, List.mem_of_getElem? (i := 404) (by decide +kernel), List.mem_of_getElem? (i := 32) (by decide +kernel), by decide +kernel, by decide +kernel⟩, ⟨by decide, by decide⟩, Or.inr (Or.inl ⟨rfl, rfl⟩), Or.inr (Or.inl ⟨rfl, by decide +kernel, List.mem_of_getElem? (i := 402) (by decide +kernel), List.mem_of_getElem? (i := 403) (by decide +kernel), by decide, rfl⟩)⟩
set_option maxRecDepth 100000 in
theorem pg_m29 : mm_mok pg_S 29 := ⟨⟨by decide +kernel, List.mem_of_getElem? (i := 80) (by decide +kernel), List.mem_of_getElem? (i := 33) (by decide +kernel), by decide +kernel, by decide +kernel⟩, ⟨by decide, by decide⟩, Or.inl ⟨rfl, rfl⟩, Or.inr (Or.inr ⟨Or.inr rfl, by decide +kernel, List.mem_of_getElem? (i := 79) (by decide +kernel), rfl, rfl⟩)⟩
set_option maxRecDepth 100000 in
theorem pg_m30 : mm_mok pg_S 30 := ⟨⟨by decide +kernel, List.mem_of_getElem? (i := 345) (by decide +kernel), List.mem_of_getElem? (i := 33) (by decide +kernel), by decide +kernel, by decide +kernel⟩, ⟨by decide, by decide⟩, Or.inl ⟨rfl, rfl⟩, Or.inr (Or.inl ⟨rfl, by decide +kernel, List.mem_of_getElem? (i := 343) (by decide +kernel), List.mem_of_getElem? (i := 344) (by decide +kernel), by decide, rfl⟩)⟩
set_option maxRecDepth 100000 in
theorem pg_m31 : mm_mok pg_S 31 := ⟨⟨by decide +kernel, List.mem_of_getElem? (i := 349) (by decide +kernel), List.mem_of_getElem? (i := 33) (by decide +kernel), by decide +kernel, by decide +kernel⟩, ⟨by decide, by decide⟩, Or.inr (Or.inl ⟨rfl, rfl⟩), Or.inr (Or.inl ⟨rfl, by decide +kernel, List.mem_of_getElem? (i := 347) (by decide +kernel), List.mem_of_getElem? (i := 348) (by decide +kernel), by decide, rfl⟩)⟩
set_option maxRecDepth 100000 in
theorem pg_m32 : mm_mok pg_S 32 := ⟨⟨by decide +kernel, List.mem_of_getElem? (i := 43) (by decide +kernel), List.mem_of_getElem? (i := 31) (by decide +kernel), by decide +kernel, by decide +kernel⟩, ⟨by decide, by decide⟩, Or.inl ⟨rfl, rfl⟩, Or.inr (Or.inr ⟨Or.inl rfl, by decide +kernel, List.mem_of_getElem? (i := 42) (by decide +kernel), rfl, rfl⟩)⟩
set_option maxRecDepth 100000 in
theorem pg_m33 : mm_mok pg_S 33 := ⟨⟨by decide +kernel, List.mem_of_getElem? (i := 112) (by decide +kernel), List.mem_of_getElem? (i := 31) (by decide +kernel), by decide +kernel, by decide +kernel⟩, ⟨by decide, by decide⟩, Or.inr (Or.inl ⟨rfl, rfl⟩), Or.inr (Or.inl ⟨rfl, by decide +kernel, List.mem_of_getElem? (i := 110) (by decide +kernel), List.mem_of_getElem? (i := 111) (by decide +kernel), by decide, rfl⟩)⟩
set_option maxRecDepth 100000 in
theorem pg_m34 : mm_mok pg_S 34 := ⟨⟨by decide +kernel, List.mem_of_getElem? (i := 171) (by decide +kernel), List.mem_of_getElem? (i := 31) (by decide +kernel), by decide +kernel, by decide +kernel⟩, ⟨by decide, by decide⟩, Or.inr (Or.inr ⟨rfl, rfl⟩), Or.inr (Or.inl ⟨rfl, by decide +kernel, List.mem_of_getElem? (i := 169) (by decide +kernel), List.mem_of_getElem? (i := 170) (by decide +kernel), by decide, rfl⟩)⟩
set_option maxRecDepth 100000 in
theorem pg_m35 : mm_mok pg_S 35 := ⟨⟨by decide +kernel, List.mem_of_getElem? (i := 214) (by decide +kernel), List.mem_of_getElem? (i := 31) (by decide +kernel), by decide +kernel, by decide +kernel⟩, ⟨by decide, by decide⟩, Or.inr (Or.inr ⟨rfl, rfl⟩), Or.inr (Or.inl ⟨rfl, by decide +kernel, List.mem_of_getElem? (i := 212) (by decide +kernel), List.mem_of_getElem? (i := 213) (by decide +kernel), by decide, rfl⟩)⟩
set_option maxRecDepth 100000 in
theorem pg_m36 : mm_mok pg_S 36 := ⟨⟨by decide +kernel, List.mem_of_getElem? (i := 222) (by decide +kernel), List.mem_of_getElem? (i := 31) (by decide +kernel), by decide +kernel, by decide +kernel⟩, ⟨by decide, by decide⟩, Or.inr (Or.inr ⟨rfl, rfl⟩), Or.inr (Or.inl ⟨rfl, by decide +kernel, List.mem_of_getElem? (i := 220) (by decide +kernel), List.mem_of_getElem? (i := 221) (by decide +kernel), by decide, rfl⟩)⟩
set_option maxRecDepth 100000 in
theorem pg_m37 : mm_mok pg_S 37 := ⟨⟨by decide +kernel, List.mem_of_getElem? (i := 226) (by decide +kernel), List.mem_of_getElem? (i := 31) (by decide +kernel), by decide +kernel, by decide +kernel⟩, ⟨by decide, by decide⟩, Or.inr (Or.inl ⟨rfl, rfl⟩), Or.inr (Or.inl ⟨rfl, by decide +kernel, List.mem_of_getElem? (i := 224) (by decide +kernel), List.mem_of_getElem? (i := 225) (by decide +kernel), by decide, rfl⟩)⟩
set_option maxRecDepth 100000 in
theorem pg_m38 : mm_mok pg_S 38 := ⟨⟨by decide +kernel, List.mem_of_getElem? (i := 245) (by decide +kernel), List.mem_of_getElem? (i := 31) (by decide +kernel), by decide +kernel, by decide +kernel⟩, ⟨by decide, by decide⟩, Or.inr (Or.inl ⟨rfl, rfl⟩), Or.inr (Or.inl ⟨rfl, by decide +kernel, List.mem_of_getElem? (i := 243) (by decide +kernel), List.mem_of_getElem? (i := 244) (by decide +kernel), by decide, rfl⟩)⟩
set_option maxRecDepth 100000 in
theorem pg_m39 : mm_mok pg_S 39 := ⟨⟨by decide +kernel, List.mem_of_getElem? (i := 249) (by decide +kernel), List.mem_of_getElem? (i := 31) (by decide +kernel), by decide +kernel, by decide +kernel⟩, ⟨by decide, by decide⟩, Or.inr (Or.inl ⟨rfl, rfl⟩), Or.inr (Or.inl ⟨rfl, by decide +kernel, List.mem_of_getElem? (i := 247) (by decide +kernel), List.mem_of_getElem? (i := 248) (by decide +kernel), by decide, rfl⟩)⟩
set_option maxRecDepth 100000 in
theorem pg_m40 : mm_mok pg_S 40 := ⟨⟨by decide +kernel, List.mem_of_getElem? (i := 265) (by decide +kernel), List.mem_of_getElem? (i := 31) (by decide +kernel), by decide +kernel, by decide +kernel⟩, ⟨by decide, by decide⟩, Or.inr (Or.inr ⟨rfl, rfl⟩), Or.inr (Or.inl ⟨rfl, by decide +kernel, List.mem_of_getElem? (i := 263) (by decide +kernel), List.mem_of_getElem? (i := 264) (by decide +kernel), by decide, rfl⟩)⟩
set_option maxRecDepth 100000 in
theorem pg_m41 : mm_mok pg_S 41 := ⟨⟨by decide +kernel, List.mem_of_getElem? (i := 277) (by decide +kernel), List.mem_of_getElem? (i := 31) (by decide +kernel), by decide +kernel, by decide +kernel⟩, ⟨by decide, by decide⟩, Or.inr (Or.inl ⟨rfl, rfl⟩), Or.inr (Or.inl ⟨rfl, by decide +kernel, List.mem_of_getElem? (i := 275) (by decide +kernel), List.mem_of_getElem? (i := 276) (by decide +kernel), by decide, rfl⟩)⟩
set_option maxRecDepth 100000 in
theorem pg_m42 : mm_mok pg_S 42 := ⟨⟨by decide +kernel, List.mem_of_getElem? (i := 356) (by decide +kernel), List.mem_of_getElem? (i := 31) (by decide +kernel), by decide +kernel, by decide +kernel⟩, ⟨by decide, by decide⟩, Or.inr (Or.inl ⟨rfl, rfl⟩), Or.inr (Or.inl ⟨rfl, by decide +kernel, List.mem_of_getElem? (i := 354) (by decide +kernel), List.mem_of_getElem? (i := 355) (by decide +kernel), by decide, rfl⟩)⟩
set_option maxRecDepth 100000 in
theorem pg_m43 : mm_mok pg_S 43 := ⟨⟨by decide +kernel, List.mem_of_getElem? (i := 360) (by decide +kernel), List.mem_of_getElem? (i := 31) (by decide +kernel), by decide +kernel, by decide +kernel⟩, ⟨by decide, by decide⟩, Or.inr (Or.inl ⟨rfl, rfl⟩), Or.inr (Or.inl ⟨rfl, by decide +kernel, List.mem_of_getElem? (i := 358) (by decide +kernel), List.mem_of_getElem? (i := 359) (by decide +kernel), by decide, rfl⟩)⟩
set_option maxRecDepth 100000 in
theorem pg_m44 : mm_mok pg_S 44 := ⟨⟨by decide +kernel, List.mem_of_getElem? (i := 365) (by decide +kernel), List.mem_of_getElem? (i := 31) (by decide +kernel), by decide +kernel, by decide +kernel⟩, ⟨by decide, by decide⟩, Or.inr (Or.inl ⟨rfl, rfl⟩), Or.inr (Or.inl ⟨rfl, by decide +kernel, List.mem_of_getElem? (i := 363) (by decide +kernel), List.mem_of_getElem? (i := 364) (by decide +kernel), by decide, rfl⟩)⟩
set_option maxRecDepth 100000 in
theorem pg_m45 : mm_mok pg_S 45 := ⟨⟨by decide +kernel, List.mem_of_getElem? (i := 372) (by decide +kernel), List.mem_of_getElem? (i := 31) (by decide +kernel), by decide +kernel, by decide +kernel⟩, ⟨by decide, by decide⟩, Or.inr (Or.inl ⟨rfl, rfl⟩), Or.inr (Or.inl ⟨rfl, by decide +kernel, List.mem_of_getElem? (i := 370) (by decide +kernel), List.mem_of_getElem? (i := 371) (by decide +kernel), by decide, rfl⟩)⟩
set_option maxRecDepth 100000 in
theorem pg_m46 : mm_mok pg_S 46 := ⟨⟨by decide +kernel, List.mem_of_getElem? (i := 380) (by decide +kernel), List.mem_of_getElem? (i := 31) (by decide +kernel), by decide +kernel, by decide +kernel⟩, ⟨by decide, by decide⟩, Or.inr (Or.inl ⟨rfl, rfl⟩), Or.inr (Or.inl ⟨rfl, by decide +kernel, List.mem_of_getElem? (i := 378) (by decide +kernel), List.mem_of_getElem? (i := 379) (by decide +kernel), by decide, rfl⟩)⟩
set_option maxRecDepth 100000 in
theorem pg_m47 : mm_mok pg_S 47 := ⟨⟨by decide +kernel, List.mem_of_getElem? (i := 384) (by decide +kernel), List.mem_of_getElem? (i := 31) (by decide +kernel), by decide +kernel, by decide +kernel⟩, ⟨by decide, by decide⟩, Or.inr (Or.inl ⟨rfl, rfl⟩), Or.inr (Or.inl ⟨rfl, by decide +kernel, List.mem_of_getElem? (i := 382) (by decide +kernel), List.mem_of_getElem? (i := 383) (by decide +kernel), by decide, rfl⟩)⟩
set_option maxRecDepth 100000 in
theorem pg_m48 : mm_mok pg_S 48 := ⟨⟨by decide +kernel, List.mem_of_getElem? (i := 392) (by decide +kernel), List.mem_of_getElem? (i := 31) (by decide +kernel), by decide +kernel, by decide +kernel⟩, ⟨by decide, by decide⟩, Or.inr (Or.inl ⟨rfl, rfl⟩), Or.inr (Or.inl ⟨rfl, by decide +kernel, List.mem_of_getElem? (i := 390) (by decide +kernel), List.mem_of_getElem? (i := 391) (by decide +kernel), by decide, rfl⟩)⟩
set_option maxRecDepth 100000 in
theorem pg_m49 : mm_mok pg_S 49 := ⟨⟨by decide +kernel, List.mem_of_getElem? (i := 396) (by decide +kernel), List.mem_of_getElem? (i := 31) (by decide +kernel), by decide +kernel, by decide +kernel⟩, ⟨by decide, by decide⟩, Or.inr (Or.inl ⟨rfl, rfl⟩), Or.inr (Or.inl ⟨rfl, by decide +kernel, List.mem_of_getElem? (i := 394) (by decide +kernel), List.mem_of_getElem? (i := 395) (by decide +kernel), by decide, rfl⟩)⟩
set_option maxRecDepth 100000 in
theorem pg_m50 : mm_mok pg_S 50 := ⟨⟨by decide +kernel, List.mem_of_getElem? (i := 400) (by decide +kernel), List.mem_of_getElem? (i := 31) (by decide +kernel), by decide +kernel, by decide +kernel⟩, ⟨by decide, by decide⟩, Or.inr (Or.inl ⟨rfl, rfl⟩), Or.inr (Or.inl ⟨rfl, by decide +kernel, List.mem_of_getElem? (i := 398) (by decide +kernel), List.mem_of_getElem? (i := 399) (by decide +kernel), by decide, rfl⟩)⟩
set_option maxRecDepth 100000 in
theorem pg_m51 : mm_mok pg_S 51 := ⟨⟨by decide +kernel, List.mem_of_getElem? (i := 412) (by decide +kernel), List.mem_of_getElem? (i := 31) (by decide +kernel), by decide +kernel, by decide +kernel⟩, ⟨by decide, by decide⟩, Or.inr (Or.inl ⟨rfl, rfl⟩), Or.inr (Or.inl ⟨rfl, by decide +kernel, List.mem_of_getElem? (i := 410) (by decide +kernel), List.mem_of_getElem? (i := 411) (by decide +kernel), by decide, rfl⟩)⟩
set_option maxRecDepth 100000 in
theorem pg_m52 : mm_mok pg_S 52 := ⟨⟨by decide +kernel, List.mem_of_getElem? (i := 174) (by decide +kernel), List.mem_of_getElem? (i := 31) (by decide +kernel), by decide +kernel, by decide +kernel⟩, ⟨by decide, by decide⟩, Or.inr (Or.inr ⟨rfl, rfl⟩), Or.inr (Or.inl ⟨rfl, by decide +kernel, List.mem_of_getElem? (i := 173) (by decide +kernel), List.mem_of_getElem? (i := 0) (by decide +kernel), by decide, rfl⟩)⟩
set_option maxRecDepth 100000 in
theorem pg_m53 : mm_mok pg_S 53 := ⟨⟨by decide +kernel, List.mem_of_getElem? (i := 177) (by decide +kernel), List.mem_of_getElem? (i := 31) (by decide +kernel), by decide +kernel, by decide +kernel⟩, ⟨by decide, by decide⟩, Or.inr (Or.inr ⟨rfl, rfl⟩), Or.inl ⟨rfl, by decide +kernel, List.mem_of_getElem? (i := 176) (by decide +kernel)⟩⟩
set_option maxRecDepth 100000 in
theorem pg_m54 : mm_mok pg_S 54 := ⟨⟨by decide +kernel, List.mem_of_getElem? (i := 415) (by decide +kernel), List.mem_of_getElem? (i := 31) (by decide +kernel), by decide +kernel, by decide +kernel⟩, ⟨by decide, by decide⟩, Or.inr (Or.inl ⟨rfl, rfl⟩), Or.inr (Or.inl ⟨rfl, by decide +kernel, List.mem_of_getElem? (i := 414) (by decide +kernel), List.mem_of_getElem? (i := 14) (by decide +kernel), by decide, rfl⟩)⟩
set_option maxRecDepth 100000 in
theorem pg_m55 : mm_mok pg_S 55 := ⟨⟨by decide +kernel, List.mem_of_getElem? (i := 229) (by decide +kernel), List.mem_of_getElem? (i := 31) (by decide +kernel), by decide +kernel, by decide +kernel⟩, ⟨by decide, by decide⟩, Or.inr (Or.inr ⟨rfl, rfl⟩), Or.inr (Or.inl ⟨rfl, by decide +kernel, List.mem_of_getElem? (i := 228) (by decide +kernel), List.mem_of_getElem? (i := 1) (by decide +kernel), by decide, rfl⟩)⟩
set_option maxRecDepth 100000 in
theorem pg_m56 : mm_mok pg_S 56 := ⟨⟨by decide +kernel, List.mem_of_getElem? (i := 232) (by decide +kernel), List.mem_of_getElem? (i := 31) (by decide +kernel), by decide +kernel, by decide +kernel⟩, ⟨by decide, by decide⟩, Or.inr (Or.inl ⟨rfl, rfl⟩), Or.inr (Or.inl ⟨rfl, by decide +kernel, List.mem_of_getElem? (i := 231) (by decide +kernel), List.mem_of_getElem? (i := 2) (by decide +kernel), by decide, rfl⟩)⟩
set_option maxRecDepth 100000 in
theorem pg_m57 : mm_mok pg_S 57 := ⟨⟨by decide +kernel, List.mem_of_getElem? (i := 286) (by decide +kernel), List.mem_of_getElem? (i := 31) (by decide +kernel), by decide +kernel, by decide +kernel⟩, ⟨by decide, by decide⟩, Or.inr (Or.inr ⟨rfl, rfl⟩), Or.inr (Or.inl ⟨rfl, by decide +kernel, List.mem_of_getElem? (i := 285) (by decide +kernel), List.mem_of_getElem? (i := 5) (by decide +kernel), by decide, rfl⟩)⟩
set_option maxRecDepth 100000 in
theorem pg_m58 : mm_mok pg_S 58 := ⟨⟨by decide +kernel, List.mem_of_getElem? (i := 292) (by decide +kernel), List.mem_of_getElem? (i := 31) (by decide +kernel), by decide +kernel, by decide +kernel⟩, ⟨by decide, by decide⟩, Or.inr (Or.inl ⟨rfl, rfl⟩), Or.inr (Or.inl ⟨rfl, by decide +kernel, List.mem_of_getElem? (i := 291) (by decide +kernel), List.mem_of_getElem? (i := 7) (by decide +kernel), by decide, rfl⟩)⟩
set_option maxRecDepth 100000 in
theorem pg_m59 : mm_mok pg_S 59 := ⟨⟨by decide +kernel, List.mem_of_getElem? (i := 289) (by decide +kernel), List.mem_of_getElem? (i := 31) (by decide +kernel), by decide +kernel, by decide +kernel⟩, ⟨by decide, by decide⟩, Or.inr (Or.inr ⟨rfl, rfl⟩), Or.inr (Or.inl ⟨rfl, by decide +kernel, List.mem_of_getElem? (i := 288) (by decide +kernel), List.mem_of_getElem? (i := 6) (by decide +kernel), by decide, rfl⟩)⟩
set_option maxRecDepth 100000 in
theorem pg_m60 : mm_mok pg_S 60 := ⟨⟨by decide +kernel, List.mem_of_getElem? (i := 368) (by decide +kernel), List.mem_of_getElem? (i := 31) (by decide +kernel), by decide +kernel, by decide +kernel⟩, ⟨by decide, by decide⟩, Or.inr (Or.inl ⟨rfl, rfl⟩), Or.inr (Or.inl ⟨rfl, by decide +kernel, List.mem_of_getElem? (i := 367) (by decide +kernel), List.mem_of_getElem? (i := 13) (by decide +kernel), by decide, rfl⟩)⟩
set_option maxRecDepth 100000 in
theorem pg_m61 : mm_mok pg_S 61 := ⟨⟨by decide +kernel, List.mem_of_getElem? (i := 283) (by decide +kernel), List.mem_of_getElem? (i := 31) (by decide +kernel), by decide +kernel, by decide +kernel⟩, ⟨by decide, by decide⟩, Or.inr (Or.inl ⟨rfl, rfl⟩), Or.inr (Or.inl ⟨rfl, by decide +kernel, List.mem_of_getElem? (i := 282) (by decide +kernel), List.mem_of_getElem? (i := 4) (by decide +kernel), by decide, rfl⟩)⟩
set_option maxRecDepth 100000 in
theorem pg_m62 : mm_mok pg_S 62 := ⟨⟨by decide +kernel, List.mem_of_getElem? (i := 302) (by decide +kernel), List.mem_of_getElem? (i := 31) (by decide +kernel), by decide +kernel, by decide +kernel⟩, ⟨by decide, by decide⟩, Or.inr (Or.inl ⟨rfl, rfl⟩), Or.inr (Or.inl ⟨rfl, by decide +kernel, List.mem_of_getElem? (i := 301) (by decide +kernel), List.mem_of_getElem? (i := 9) (by decide +kernel), by decide, rfl⟩)⟩
set_option maxRecDepth 100000 in
theorem pg_m63 : mm_mok pg_S 63 := ⟨⟨by decide +kernel, List.mem_of_getElem? (i := 280) (by decide +kernel), List.mem_of_getElem? (i := 31) (by decide +kernel), by decide +kernel, by decide +kernel⟩, ⟨by decide, by decide⟩, Or.inl ⟨rfl, rfl⟩, Or.inr (Or.inl ⟨rfl, by decide +kernel, List.mem_of_getElem? (i := 279) (by decide +kernel), List.mem_of_getElem? (i := 3) (by decide +kernel), by decide, rfl⟩)⟩
set_option maxRecDepth 100000 in
theorem pg_m64 : mm_mok pg_S 64 := ⟨⟨by decide +kernel, List.mem_of_getElem? (i := 295) (by decide +kernel), List.mem_of_getElem? (i := 31) (by decide +kernel), by decide +kernel, by decide +kernel⟩, ⟨by decide, by decide⟩, Or.inr (Or.inl ⟨rfl, rfl⟩), Or.inr (Or.inl ⟨rfl, by decide +kernel, List.mem_of_getElem? (i := 294) (by decide +kernel), List.mem_of_getElem? (i := 8) (by decide +kernel), by decide, rfl⟩)⟩
set_option maxRecDepth 100000 in
theorem pg_m65 : mm_mok pg_S 65 := ⟨⟨by decide +kernel, List.mem_of_getElem? (i := 322) (by decide +kernel), List.mem_of_getElem? (i := 31) (by decide +kernel), by decide +kernel, by decide +kernel⟩, ⟨by decide, by decide⟩, Or.inl ⟨rfl, rfl⟩, Or.inr (Or.inl ⟨rfl, by decide +kernel, List.mem_of_getElem? (i := 321) (by decide +kernel), List.mem_of_getElem? (i := 10) (by decide +kernel), by decide, rfl⟩)⟩
set_option maxRecDepth 100000 in
theorem pg_m66 : mm_mok pg_S 66 := ⟨⟨by decide +kernel, List.mem_of_getElem? (i := 337) (by decide +kernel), List.mem_of_getElem? (i := 31) (by decide +kernel), by decide +kernel, by decide +kernel⟩, ⟨by decide, by decide⟩, Or.inl ⟨rfl, rfl⟩, Or.inr (Or.inl ⟨rfl, by decide +kernel, List.mem_of_getElem? (i := 336) (by decide +kernel), List.mem_of_getElem? (i := 11) (by decide +kernel), by decide, rfl⟩)⟩
set_option maxRecDepth 100000 in
theorem pg_m67 : mm_mok pg_S 67 := ⟨⟨by decide +kernel, List.mem_of_getElem? (i := 352) (by decide +kernel), List.mem_of_getElem? (i := 31) (by decide +kernel), by decide +kernel, by decide +kernel⟩, ⟨by decide, by decide⟩, Or.inl ⟨rfl, rfl⟩, Or.inr (Or.inl ⟨rfl, by decide +kernel, List.mem_of_getElem? (i := 351) (by decide +kernel), List.mem_of_getElem? (i := 12) (by decide +kernel), by decide, rfl⟩)⟩
set_option maxRecDepth 100000 in
theorem pg_m68 : mm_mok pg_S 68 := ⟨⟨by decide +kernel, List.mem_of_getElem? (i := 420) (by decide +kernel), List.mem_of_getElem? (i := 34) (by decide +kernel), by decide +kernel, by decide +kernel⟩, ⟨by decide, by decide⟩, Or.inl ⟨rfl, rfl⟩, Or.inr (Or.inr ⟨Or.inl rfl, by decide +kernel, List.mem_of_getElem? (i := 419) (by decide +kernel), rfl, rfl⟩)⟩
set_option maxRecDepth 100000 in
theorem pg_m69 : mm_mok pg_S 69 := ⟨⟨by decide +kernel, List.mem_of_getElem? (i := 498) (by decide +kernel), List.mem_of_getElem? (i := 34) (by decide +kernel), by decide +kernel, by decide +kernel⟩, ⟨by decide, by decide⟩, Or.inr (Or.inr ⟨rfl, rfl⟩), Or.inl ⟨rfl, by decide +kernel, List.mem_of_getElem? (i := 497) (by decide +kernel)⟩⟩
set_option maxRecDepth 100000 in
theorem pg_m70 : mm_mok pg_S 70 := ⟨⟨by decide +kernel, List.mem_of_getElem? (i := 495) (by decide +kernel), List.mem_of_getElem? (i := 34) (by decide +kernel), by decide +kernel, by decide +kernel⟩, ⟨by decide, by decide⟩, Or.inr (Or.inl ⟨rfl, rfl⟩), Or.inr (Or.inl ⟨rfl, by decide +kernel, List.mem_of_getElem? (i := 493) (by decide +kernel), List.mem_of_getElem? (i := 494) (by decide +kernel), by decide, rfl⟩)⟩
set_option maxRecDepth 100000 in
theorem pg_m71 : mm_mok pg_S 71 := ⟨⟨by decide +kernel, List.mem_of_getElem? (i := 505) (by decide +kernel), List.mem_of_getElem? (i := 34) (by decide +kernel), by decide +kernel, by decide +kernel⟩, ⟨by decide, by decide⟩, Or.inr (Or.inr ⟨rfl, rfl⟩), Or.inr (Or.inl ⟨rfl, by decide +kernel, List.mem_of_getElem? (i := 504) (by decide +kernel), List.mem_of_getElem? (i := 15) (by decide +kernel), by decide, rfl⟩)⟩
set_option maxRecDepth 100000 in
theorem pg_m72 : mm_mok pg_S 72 := ⟨⟨by decide +kernel, List.mem_of_getElem? (i := 502) (by decide +kernel), List.mem_of_getElem? (i := 34) (by decide +kernel), by decide +kernel, by decide +kernel⟩, ⟨by decide, by decide⟩, Or.inr (Or.inr ⟨rfl, rfl⟩), Or.inr (Or.inl ⟨rfl, by decide +kernel, List.mem_of_getElem? (i := 500) (by decide +kernel), List.mem_of_getElem? (i := 501) (by decide +kernel), by decide, rfl⟩)⟩
set_option maxRecDepth 100000 in
theorem pg_m73 : mm_mok pg_S 73 := ⟨⟨by decide +kernel, List.mem_of_getElem? (i := 509) (by decide +kernel), List.mem_of_getElem? (i := 34) (by decide +kernel), by decide +kernel, by decide +kernel⟩, ⟨by decide, by decide⟩, Or.inr (Or.inr ⟨rfl, rfl⟩), Or.inr (Or.inl ⟨rfl, by decide +kernel, List.mem_of_getElem? (i := 507) (by decide +kernel), List.mem_of_getElem? (i := 508) (by decide +kernel), by decide, rfl⟩)⟩
set_option maxRecDepth 100000 in
theorem pg_m74 : mm_mok pg_S 74 := ⟨⟨by decide +kernel, List.mem_of_getElem? (i := 513) (by decide +kernel), List.mem_of_getElem? (i := 34) (by decide +kernel), by decide +kernel, by decide +kernel⟩, ⟨by decide, by decide⟩, Or.inr (Or.inr ⟨rfl, rfl⟩), Or.inr (Or.inl ⟨rfl, by decide +kernel, List.mem_of_getElem? (i := 511) (by decide +kernel), List.mem_of_getElem? (i := 512) (by decide +kernel), by decide, rfl⟩)⟩
set_option maxRecDepth 100000 in
theorem pg_m75 : mm_mok pg_S 75 := ⟨⟨by decide +kernel, List.mem_of_getElem? (i := 520) (by decide +kernel), List.mem_of_getElem? (i := 34) (by decide +kernel), by decide +kernel, by decide +kernel⟩, ⟨by decide, by decide⟩, Or.inr (Or.inl ⟨rfl, rfl⟩), Or.inr (Or.inl ⟨rfl, by decide +kernel, List.mem_of_getElem? (i := 519) (by decide +kernel), List.mem_of_getElem? (i := 16) (by decide +kernel), by decide, rfl⟩)⟩
set_option maxRecDepth 100000 in
theorem pg_m76 : mm_mok pg_S 76 := ⟨⟨by decide +kernel, List.mem_of_getElem? (i := 517) (by decide +kernel), List.mem_of_getElem? (i := 34) (by decide +kernel), by decide +kernel, by decide +kernel⟩, ⟨by decide, by decide⟩, Or.inr (Or.inl ⟨rfl, rfl⟩), Or.inr (Or.inl ⟨rfl, by decide +kernel, List.mem_of_getElem? (i := 515) (by decide +kernel), List.mem_of_getElem? (i := 516) (by decide +kernel), by decide, rfl⟩)⟩
set_option maxRecDepth 100000 in
theorem pg_m77 : mm_mok pg_S 77 := ⟨⟨by decide +kernel, List.mem_of_getElem? (i := 530) (by decide +kernel), List.mem_of_getElem? (i := 34) (by decide +kernel), by decide +kernel, by decide +kernel⟩, ⟨by decide, by decide⟩, Or.inr (Or.inl ⟨rfl, rfl⟩), Or.inr (Or.inl ⟨rfl, by decide +kernel, List.mem_of_getElem? (i := 529) (by decide +kernel), List.mem_of_getElem? (i := 18) (by decide +kernel), by decide, rfl⟩)⟩
set_option maxRecDepth 100000 in
theorem pg_m78 : mm_mok pg_S 78 := ⟨⟨by decide +kernel, List.mem_of_getElem? (i := 527) (by decide +kernel), List.mem_of_getElem? (i := 34) (by decide +kernel), by decide +kernel, by decide +kernel⟩, ⟨by decide, by decide⟩, Or.inr (Or.inr ⟨rfl, rfl⟩), Or.inr (Or.inl ⟨rfl, by decide +kernel, List.mem_of_getElem? (i := 526) (by decide +kernel), List.mem_of_getElem? (i := 17) (by decide +kernel), by decide, rfl⟩)⟩
set_option maxRecDepth 100000 in
theorem pg_m79 : mm_mok pg_S 79 := ⟨⟨by decide +kernel, List.mem_of_getElem? (i := 524) (by decide +kernel), List.mem_of_getElem? (i := 34) (by decide +kernel), by decide +kernel, by decide +kernel⟩, ⟨by decide, by decide⟩, Or.inr (Or.inl ⟨rfl, rfl⟩), Or.inr (Or.inl ⟨rfl, by decide +kernel, List.mem_of_getElem? (i := 522) (by decide +kernel), List.mem_of_getElem? (i := 523) (by decide +kernel), by decide, rfl⟩)⟩
set_option maxRecDepth 100000 in
theorem pg_m80 : mm_mok pg_S 80 := ⟨⟨by decide +kernel, List.mem_of_getElem? (i := 535) (by decide +kernel), List.mem_of_getElem? (i := 34) (by decide +kernel), by decide +kernel, by decide +kernel⟩, ⟨by decide, by decide⟩, Or.inr (Or.inl ⟨rfl, rfl⟩), Or.inr (Or.inl ⟨rfl, by decide +kernel, List.mem_of_getElem? (i := 533) (by decide +kernel), List.mem_of_getElem? (i := 534) (by decide +kernel), by decide, rfl⟩)⟩
set_option maxRecDepth 100000 in
theorem pg_m81 : mm_mok pg_S 81 := ⟨⟨by decide +kernel, List.mem_of_getElem? (i := 539) (by decide +kernel), List.mem_of_getElem? (i := 34) (by decide +kernel), by decide +kernel, by decide +kernel⟩, ⟨by decide, by decide⟩, Or.inr (Or.inr ⟨rfl, rfl⟩), Or.inr (Or.inl ⟨rfl, by decide +kernel, List.mem_of_getElem? (i := 537) (by decide +kernel), List.mem_of_getElem? (i := 538) (by decide +kernel), by decide, rfl⟩)⟩
set_option maxRecDepth 100000 in
theorem pg_m82 : mm_mok pg_S 82 := ⟨⟨by decide +kernel, List.mem_of_getElem? (i := 567) (by decide +kernel), List.mem_of_getElem? (i := 34) (by decide +kernel), by decide +kernel, by decide +kernel⟩, ⟨by decide, by decide⟩, Or.inr (Or.inr ⟨rfl, rfl⟩), Or.inr (Or.inl ⟨rfl, by decide +kernel, List.mem_of_getElem? (i := 566) (by decide +kernel), List.mem_of_getElem? (i := 23) (by decide +kernel), by decide, rfl⟩)⟩
set_option maxRecDepth 100000 in
theorem pg_m83 : mm_mok pg_S 83 := ⟨⟨by decide +kernel, List.mem_of_getElem? (i := 573) (by decide +kernel), List.mem_of_getElem? (i := 34) (by decide +kernel), by decide +kernel, by decide +kernel⟩, ⟨by decide, by decide⟩, Or.inr (Or.inl ⟨rfl, rfl⟩), Or.inr (Or.inl ⟨rfl, by decide +kernel, List.mem_of_getElem? (i := 572) (by decide +kernel), List.mem_of_getElem? (i := 25) (by decide +kernel), by decide, rfl⟩)⟩
set_option maxRecDepth 100000 in
theorem pg_m84 : mm_mok pg_S 84 := ⟨⟨by decide +kernel, List.mem_of_getElem? (i := 570) (by decide +kernel), List.mem_of_getElem? (i := 34) (by decide +kernel), by decide +kernel, by decide +kernel⟩, ⟨by decide, by decide⟩, Or.inr (Or.inr ⟨rfl, rfl⟩), Or.inr (Or.inl ⟨rfl, by decide +kernel, List.mem_of_getElem? (i := 569) (by decide +kernel), List.mem_of_getElem? (i := 24) (by decide +kernel), by decide, rfl⟩)⟩
set_option maxRecDepth 100000 in
theorem pg_m85 : mm_mok pg_S 85 := ⟨⟨by decide +kernel, List.mem_of_getElem? (i := 564) (by decide +kernel), List.mem_of_getElem? (i := 34) (by decide +kernel), by decide +kernel, by decide +kernel⟩, ⟨by decide, by decide⟩, Or.inr (Or.inl ⟨rfl, rfl⟩), Or.inr (Or.inl ⟨rfl, by decide +kernel, List.mem_of_getElem? (i := 563) (by decide +kernel), List.mem_of_getElem? (i := 22) (by decide +kernel), by decide, rfl⟩)⟩
set_option maxRecDepth 100000 in
theorem pg_m86 : mm_mok pg_S 86 := ⟨⟨by decide +kernel, List.mem_of_getElem? (i := 546) (by decide +kernel), List.mem_of_getElem? (i := 34) (by decide +kernel), by decide +kernel, by decide +kernel⟩, ⟨by decide, by decide⟩, Or.inr (Or.inr ⟨rfl, rfl⟩), Or.inr (Or.inl ⟨rfl, by decide +kernel, List.mem_of_getElem? (i := 545) (by decide +kernel), List.mem_of_getElem? (i := 19) (by decide +kernel), by decide, rfl⟩)⟩
set_option maxRecDepth 100000 in
theorem pg_m87 : mm_mok pg_S 87 := ⟨⟨by decide +kernel, List.mem_of_getElem? (i := 583) (by decide +kernel), List.mem_of_getElem? (i := 34) (by decide +kernel), by decide +kernel, by decide +kernel⟩, ⟨by decide, by decide⟩, Or.inr (Or.inr ⟨rfl, rfl⟩), Or.inr (Or.inl ⟨rfl, by decide +kernel, List.mem_of_getElem? (i := 582) (by decide +kernel), List.mem_of_getElem? (i := 28) (by decide +kernel), by decide, rfl⟩)⟩
set_option maxRecDepth 100000 in
theorem pg_m88 : mm_mok pg_S 88 := ⟨⟨by decide +kernel, List.mem_of_getElem? (i := 543) (by decide +kernel), List.mem_of_getElem? (i := 34) (by decide +kernel), by decide +kernel, by decide +kernel⟩, ⟨by decide, by decide⟩, Or.inr (Or.inl ⟨rfl, rfl⟩), Or.inr (Or.inl ⟨rfl, by decide +kernel, List.mem_of_getElem? (i := 541) (by decide +kernel), List.mem_of_getElem? (i := 542) (by decide +kernel), by decide, rfl⟩)⟩
set_option maxRecDepth 100000 in
theorem pg_m89 : mm_mok pg_S 89 := ⟨⟨by decide +kernel, List.mem_of_getElem? (i := 550) (by decide +kernel), List.mem_of_getElem? (i := 34) (by decide +kernel), by decide +kernel, by decide +kernel⟩, ⟨by decide, by decide⟩, Or.inr (Or.inl ⟨rfl, rfl⟩), Or.inr (Or.inl ⟨rfl, by decide +kernel, List.mem_of_getElem? (i := 548) (by decide +kernel), List.mem_of_getElem? (i := 549) (by decide +kernel), by decide, rfl⟩)⟩
set_option maxRecDepth 100000 in
theorem pg_m90 : mm_mok pg_S 90 := ⟨⟨by decide +kernel, List.mem_of_getElem? (i := 561) (by decide +kernel), List.mem_of_getElem? (i := 34) (by decide +kernel), by decide +kernel, by decide +kernel⟩, ⟨by decide, by decide⟩, Or.inr (Or.inl ⟨rfl, rfl⟩), Or.inr (Or.inl ⟨rfl, by decide +kernel, List.mem_of_getElem? (i := 560) (by decide +kernel), List.mem_of_getElem? (i := 21) (by decide +kernel), by decide, rfl⟩)⟩
set_option maxRecDepth 100000 in
theorem pg_m91 : mm_mok pg_S 91 := ⟨⟨by decide +kernel, List.mem_of_getElem? (i := 577) (by decide +kernel), List.mem_of_getElem? (i := 34) (by decide +kernel), by decide +kernel, by decide +kernel⟩, ⟨by decide, by decide⟩, Or.inr (Or.inl ⟨rfl, rfl⟩), Or.inr (Or.inl ⟨rfl, by decide +kernel, List.mem_of_getElem? (i := 576) (by decide +kernel), List.mem_of_getElem? (i := 26) (by decide +kernel), by decide, rfl⟩)⟩
set_option maxRecDepth 100000 in
theorem pg_m92 : mm_mok pg_S 92 := ⟨⟨by decide +kernel, List.mem_of_getElem? (i := 586) (by decide +kernel), List.mem_of_getElem? (i := 34) (by decide +kernel), by decide +kernel, by decide +kernel⟩, ⟨by decide, by decide⟩, Or.inl ⟨rfl, rfl⟩, Or.inr (Or.inl ⟨rfl, by decide +kernel, List.mem_of_getElem? (i := 585) (by decide +kernel), List.mem_of_getElem? (i := 29) (by decide +kernel), by decide, rfl⟩)⟩
set_option maxRecDepth 100000 in
theorem pg_m93 : mm_mok pg_S 93 := ⟨⟨by decide +kernel, List.mem_of_getElem? (i := 580) (by decide +kernel), List.mem_of_getElem? (i := 34) (by decide +kernel), by decide +kernel, by decide +kernel⟩, ⟨by decide, by decide⟩, Or.inr (Or.inl ⟨rfl, rfl⟩), Or.inr (Or.inl ⟨rfl, by decide +kernel, List.mem_of_getElem? (i := 579) (by decide +kernel), List.mem_of_getElem? (i := 27) (by decide +kernel), by decide, rfl⟩)⟩
set_option maxRecDepth 100000 in
theorem pg_m94 : mm_mok pg_S 94 := ⟨⟨by decide +kernel, List.mem_of_getElem? (i := 558) (by decide +kernel), List.mem_of_getElem? (i := 34) (by decide +kernel), by decide +kernel, by decide +kernel⟩, ⟨by decide, by decide⟩, Or.inr (Or.inl ⟨rfl, rfl⟩), Or.inr (Or.inl ⟨rfl, by decide +kernel, List.mem_of_getElem? (i := 557) (by decide +kernel), List.mem_of_getElem? (i := 20) (by decide +kernel), by decide, rfl⟩)⟩
set_option maxRecDepth 100000 in
theorem pg_m95 : mm_mok pg_S 95 := ⟨⟨by decide +kernel, List.mem_of_getElem? (i := 555) (by decide +kernel), List.mem_of_getElem? (i := 34) (by decide +kernel), by decide +kernel, by decide +kernel⟩, ⟨by decide, by decide⟩, Or.inr (Or.inl ⟨rfl, rfl⟩), Or.inr (Or.inl ⟨rfl, by decide +kernel, List.mem_of_getElem? (i := 553) (by decide +kernel), List.mem_of_getElem? (i := 554) (by decide +kernel), by decide, rfl⟩)⟩
set_option maxRecDepth 100000 in
theorem pg_m96 : mm_mok pg_S 96 := ⟨⟨by decide +kernel, List.mem_of_getElem? (i := 590) (by decide +kernel), List.mem_of_getElem? (i := 34) (by decide +kernel), by decide +kernel, by decide +kernel⟩, ⟨by decide, by decide⟩, Or.inr (Or.inl ⟨rfl, rfl⟩), Or.inr (Or.inl ⟨rfl, by decide +kernel, List.mem_of_getElem? (i := 588) (by decide +kernel), List.mem_of_getElem? (i := 589) (by decide +kernel), by decide, rfl⟩)⟩
set_option maxRecDepth 100000 in
theorem pg_m97 : mm_mok pg_S 97 := ⟨⟨by decide +kernel, List.mem_of_getElem? (i := 594) (by decide +kernel), List.mem_of_getElem? (i := 34) (by decide +kernel), by decide +kernel, by decide +kernel⟩, ⟨by decide, by decide⟩, Or.inr (Or.inl ⟨rfl, rfl⟩), Or.inr (Or.inl ⟨rfl, by decide +kernel, List.mem_of_getElem? (i := 592) (by decide +kernel), List.mem_of_getElem? (i := 593) (by decide +kernel), by decide, rfl⟩)⟩
set_option maxRecDepth 100000 in
theorem pg_m98 : mm_mok pg_S 98 := ⟨⟨by decide +kernel, List.mem_of_getElem? (i := 598) (by decide +kernel), List.mem_of_getElem? (i := 34) (by decide +kernel), by decide +kernel, by decide +kernel⟩, ⟨by decide, by decide⟩, Or.inr (Or.inl ⟨rfl, rfl⟩), Or.inr (Or.inl ⟨rfl, by decide +kernel, List.mem_of_getElem? (i := 596) (by decide +kernel), List.mem_of_getElem? (i := 597) (by decide +kernel), by decide, rfl⟩)⟩
set_option maxRecDepth 100000 in
theorem pg_m99 : mm_mok pg_S 99 := ⟨⟨by decide +kernel, List.mem_of_getElem? (i := 602) (by decide +kernel), List.mem_of_getElem? (i := 34) (by decide +kernel), by decide +kernel, by decide +kernel⟩, ⟨by decide, by decide⟩, Or.inr (Or.inl ⟨rfl, rfl⟩), Or.inr (Or.inl ⟨rfl, by decide +kernel, List.mem_of_getElem? (i := 600) (by decide +kernel), List.mem_of_getElem? (i := 601) (by decide +kernel), by decide, rfl⟩)⟩
set_option maxRecDepth 100000 in
theorem pg_m100 : mm_mok pg_S 100 := ⟨⟨by decide +kernel, List.mem_of_getElem? (i := 606) (by decide +kernel), List.mem_of_getElem? (i := 34) (by decide +kernel), by decide +kernel, by decide +kernel⟩, ⟨by decide, by decide⟩, Or.inr (Or.inl ⟨rfl, rfl⟩), Or.inr (Or.inl ⟨rfl, by decide +kernel, List.mem_of_getElem? (i := 604) (by decide +kernel), List.mem_of_getElem? (i := 605) (by decide +kernel), by decide, rfl⟩)⟩
set_option maxRecDepth 100000 in
theorem pg_m101 : mm_mok pg_S 101 := ⟨⟨by decide +kernel, List.mem_of_getElem? (i := 610) (by decide +kernel), List.mem_of_getElem? (i := 34) (by decide +kernel), by decide +kernel, by decide +kernel⟩, ⟨by decide, by decide⟩, Or.inr (Or.inl ⟨rfl, rfl⟩), Or.inr (Or.inl ⟨rfl, by decide +kernel, List.mem_of_getElem? (i := 608) (by decide +kernel), List.mem_of_getElem? (i := 609) (by decide +kernel), by decide, rfl⟩)⟩
set_option maxRecDepth 100000 in
theorem pg_m102 : mm_mok pg_S 102 := ⟨⟨by decide +kernel, List.mem_of_getElem? (i := 614) (by decide +kernel), List.mem_of_getElem? (i := 34) (by decide +kernel), by decide +kernel, by decide +kernel⟩, ⟨by decide, by decide⟩, Or.inr (Or.inl ⟨rfl, rfl⟩), Or.inr (Or.inl ⟨rfl, by decide +kernel, List.mem_of_getElem? (i := 612) (by decide +kernel), List.mem_of_getElem? (i := 613) (by decide +kernel), by decide, rfl⟩)⟩
set_option maxRecDepth 100000 in
theorem pg_m103 : mm_mok pg_S 103 := ⟨⟨by decide +kernel, List.mem_of_getElem? (i := 618) (by decide +kernel), List.mem_of_getElem? (i := 34) (by decide +kernel), by decide +kernel, by decide +kernel⟩, ⟨by decide, by decide⟩, Or.inr (Or.inl ⟨rfl, rfl⟩), Or.inr (Or.inl ⟨rfl, by decide +kernel, List.mem_of_getElem? (i := 616) (by decide +kernel), List.mem_of_getElem? (i := 617) (by decide +kernel), by decide, rfl⟩)⟩
theorem pg_mok : ∀ μ, μ < 104 → mm_mok pg_S μ
  | 0, _ => pg_m0
  | 1, _ => pg_m1
  | 2, _ => pg_m2
  | 3, _ => pg_m3
  | 4, _ => pg_m4
  | 5, _ => pg_m5
  | 6, _ => pg_m6
  | 7, _ => pg_m7
  | 8, _ => pg_m8
  | 9, _ => pg_m9
  | 10, _ => pg_m10
  | 11, _ => pg_m11
  | 12, _ => pg_m12
  | 13, _ => pg_m13
  | 14, _ => pg_m14
  | 15, _ => pg_m15
  | 16, _ => pg_m16
  | 17, _ => pg_m17
  | 18, _ => pg_m18
  | 19, _ => pg_m19
  | 20, _ => pg_m20
  | 21, _ => pg_m21
  | 22, _ => pg_m22
  | 23, _ => pg_m23
  | 24, _ => pg_m24
  | 25, _ => pg_m25
  | 26, _ => pg_m26
  | 27, _ => pg_m27
  | 28, _ => pg_m28
  | 29, _ => pg_m29
  | 30, _ => pg_m30
  | 31, _ => pg_m31
  | 32, _ => pg_m32
  | 33, _ => pg_m33
  | 34, _ => pg_m34
  | 35, _ => pg_m35
  | 36, _ => pg_m36
  | 37, _ => pg_m37
  | 38, _ => pg_m38
  | 39, _ => pg_m39
  | 40, _ => pg_m40
  | 41, _ => pg_m41
  | 42, _ => pg_m42
  | 43, _ => pg_m43
  | 44, _ => pg_m44
  | 45, _ => pg_m45
  | 46, _ => pg_m46
  | 47, _ => pg_m47
  | 48, _ => pg_m48
  | 49, _ => pg_m49
  | 50, _ => pg_m50
  | 51, _ => pg_m51
  | 52, _ => pg_m52
  | 53, _ => pg_m53
  | 54, _ => pg_m54
  | 55, _ => pg_m55
  | 56, _ => pg_m56
  | 57, _ => pg_m57
  | 58, _ => pg_m58
  | 59, _ => pg_m59
  | 60, _ => pg_m60
  | 61, _ => pg_m61
  | 62, _ => pg_m62
  | 63, _ => pg_m63
  | 64, _ => pg_m64
  | 65, _ => pg_m65
  | 66, _ => pg_m66
  | 67, _ => pg_m67
  | 68, _ => pg_m68
  | 69, _ => pg_m69
  | 70, _ => pg_m70
  | 71, _ => pg_m71
  | 72, _ => pg_m72
  | 73, _ => pg_m73
  | 74, _ => pg_m74
  | 75, _ => pg_m75
  | 76, _ => pg_m76
  | 77, _ => pg_m77
  | 78, _ => pg_m78
  | 79, _ => pg_m79
  | 80, _ => pg_m80
  | 81, _ => pg_m81
  | 82, _ => pg_m82
  | 83, _ => pg_m83
  | 84, _ => pg_m84
  | 85, _ => pg_m85
  | 86, _ => pg_m86
  | 87, _ => pg_m87
  | 88, _ => pg_m88
  | 89, _ => pg_m89
  | 90, _ => pg_m90
  | 91, _ => pg_m91
  | 92, _ => pg_m92
  | 93, _ => pg_m93
  | 94, _ => pg_m94
  | 95, _ => pg_m95
  | 96, _ => pg_m96
  | 97, _ => pg_m97
  | 98, _ => pg_m98
  | 99, _ => pg_m99
  | 100, _ => pg_m100
  | 101, _ => pg_m101
  | 102, _ => pg_m102
  | 103, _ => pg_m103
  | _ + 104, h => absurd h (by omega)
end
section
/-! the instructions -/
set_option maxRecDepth 100000 in
theorem pg_k0 : pg_t0.all (fun q => mm_ok pg_S 0 q.1 q.2) = true := by decide +kernel
set_option maxRecDepth 100000 in
theorem pg_k1 : pg_t1.all (fun q => mm_ok pg_S 1 q.1 q.2) = true := by decide +kernel
set_option maxRecDepth 100000 in
theorem pg_k2 : pg_t2.all (fun q => mm_ok pg_S 2 q.1 q.2) = true := by decide +kernel
set_option maxRecDepth 100000 in
theorem pg_k3 : pg_t3.all (fun q => mm_ok pg_S 3 q.1 q.2) = true := by decide +kernel
set_option maxRecDepth 100000 in
theorem pg_k4 : pg_t4.all (fun q => mm_ok pg_S 4 q.1 q.2) = true := by decide +kernel
set_option maxRecDepth 100000 in
theorem pg_k5 : pg_t5.all (fun q => mm_ok pg_S 5 q.1 q.2) = true := by decide +kernel
set_option maxRecDepth 100000 in
theorem pg_k6 : pg_t6.all (fun q => mm_ok pg_S 6 q.1 q.2) = true := by decide +kernel
set_option maxRecDepth 100000 in
theorem pg_k7 : pg_t7.all (fun q => mm_ok pg_S 7 q.1 q.2) = true := by decide +kernel
set_option maxRecDepth 100000 in
theorem pg_k8 : pg_t8.all (fun q => mm_ok pg_S 8 q.1 q.2) = true := by decide +kernel
set_option maxRecDepth 100000 in
theorem pg_k9 : pg_t9.all (fun q => mm_ok pg_S 9 q.1 q.2) = true := by decide +kernel
set_option maxRecDepth 100000 in
theorem pg_k10 : pg_t10.all (fun q => mm_ok pg_S 10 q.1 q.2) = true := by decide +kernel
set_option maxRecDepth 100000 in
theorem pg_k11 : pg_t11.all (fun q => mm_ok pg_S 11 q.1 q.2) = true := by decide +kernel
set_option maxRecDepth 100000 in
theorem pg_k12 : pg_t12.all (fun q => mm_ok pg_S 12 q.1 q.2) = true := by decide +kernel
set_option maxRecDepth 100000 in
theorem pg_k13 : pg_t13.all (fun q => mm_ok pg_S 13 q.1 q.2) = true := by decide +kernel
set_option maxRecDepth 100000 in
theorem pg_k14 : pg_t14.all (fun q => mm_ok pg_S 14 q.1 q.2) = true := by decide +kernel
set_option maxRecDepth 100000 in
theorem pg_k15 : pg_t15.all (fun q => mm_ok pg_S 15 q.1 q.2) = true := by decide +kernel
set_option maxRecDepth 100000 in
theorem pg_k16 : pg_t16.all (fun q => mm_ok pg_S 16 q.1 q.2) = true := by decide +kernel
set_option maxRecDepth 100000 in
theorem pg_k17 : pg_t17.all (fun q => mm_ok pg_S 17 q.1 q.2) = true := by decide +kernel
set_option maxRecDepth 100000 in
theorem pg_k18 : pg_t18.all (fun q => mm_ok pg_S 18 q.1 q.2) = true := by decide +kernel
set_option maxRecDepth 100000 in
theorem pg_k19 : pg_t19.all (fun q => mm_ok pg_S 19 q.1 q.2) = true := by decide +kernel
set_option maxRecDepth 100000 in
theorem pg_k20 : pg_t20.all (fun q => mm_ok pg_S 20 q.1 q.2) = true := by decide +kernel
set_option maxRecDepth 100000 in
theorem pg_k21 : pg_t21.all (fun q => mm_ok pg_S 21 q.1 q.2) = true := by decide +kernel
set_option maxRecDepth 100000 in
theorem pg_k22 : pg_t22.all (fun q => mm_ok pg_S 22 q.1 q.2) = true := by decide +kernel
set_option maxRecDepth 100000 in
theorem pg_k23 : pg_t23.all (fun q => mm_ok pg_S 23 q.1 q.2) = true := by decide +kernel
set_option maxRecDepth 100000 in
theorem pg_k24 : pg_t24.all (fun q => mm_ok pg_S 24 q.1 q.2) = true := by decide +kernel
set_option maxRecDepth 100000 in
theorem pg_k25 : pg_t25.all (fun q => mm_ok pg_S 25 q.1 q.2) = true := by decide +kernel
set_option maxRecDepth 100000 in
theorem pg_k26 : pg_t26.all (fun q => mm_ok pg_S 26 q.1 q.2) = true := by decide +kernel
set_option maxRecDepth 100000 in
theorem pg_k27 : pg_t27.all (fun q => mm_ok pg_S 27 q.1 q.2) = true := by decide +kernel
set_option maxRecDepth 100000 in
theorem pg_k28 : pg_t28.all (fun q => mm_ok pg_S 28 q.1 q.2) = true := by decide +kernel
set_option maxRecDepth 100000 in
theorem pg_k29 : pg_t29.all (fun q => mm_ok pg_S 29 q.1 q.2) = true := by decide +kernel
set_option maxRecDepth 100000 in
theorem pg_k30 : pg_t30.all (fun q => mm_ok pg_S 30 q.1 q.2) = true := by decide +kernel
set_option maxRecDepth 100000 in
theorem pg_k31 : pg_t31.all (fun q => mm_ok pg_S 31 q.1 q.2) = true := by decide +kernel
set_option maxRecDepth 100000 in
theorem pg_k32 : pg_t32.all (fun q => mm_ok pg_S 32 q.1 q.2) = true := by decide +kernel
set_option maxRecDepth 100000 in
theorem pg_k33 : pg_t33.all (fun q => mm_ok pg_S 33 q.1 q.2) = true := by decide +kernel
set_option maxRecDepth 100000 in
theorem pg_k34 : pg_t34.all (fun q => mm_ok pg_S 34 q.1 q.2) = true := by decide +kernel
set_option maxRecDepth 100000 in
theorem pg_k35 : pg_t35.all (fun q => mm_ok pg_S 35 q.1 q.2) = true := by decide +kernel
set_option maxRecDepth 100000 in
theorem pg_k36 : pg_t36.all (fun q => mm_ok pg_S 36 q.1 q.2) = true := by decide +kernel
set_option maxRecDepth 100000 in
theorem pg_k37 : pg_t37.all (fun q => mm_ok pg_S 37 q.1 q.2) = true := by decide +kernel
set_option maxRecDepth 100000 in
theorem pg_k38 : pg_t38.all (fun q => mm_ok pg_S 38 q.1 q.2) = true := by decide +kernel
set_option maxRecDepth 100000 in
theorem pg_k39 : pg_t39.all (fun q => mm_ok pg_S 39 q.1 q.2) = true := by decide +kernel
set_option maxRecDepth 100000 in
theorem pg_k40 : pg_t40.all (fun q => mm_ok pg_S 40 q.1 q.2) = true := by decide +kernel
set_option maxRecDepth 100000 in
theorem pg_k41 : pg_t41.all (fun q => mm_ok pg_S 41 q.1 q.2) = true := by decide +kernel
set_option maxRecDepth 100000 in
theorem pg_k42 : pg_t42.all (fun q => mm_ok pg_S 42 q.1 q.2) = true := by decide +kernel
set_option maxRecDepth 100000 in
theorem pg_k43 : pg_t43.all (fun q => mm_ok pg_S 43 q.1 q.2) = true := by decide +kernel
set_option maxRecDepth 100000 in
theorem pg_k44 : pg_t44.all (fun q => mm_ok pg_S 44 q.1 q.2) = true := by decide +kernel
set_option maxRecDepth 100000 in
theorem pg_k45 : pg_t45.all (fun q => mm_ok pg_S 45 q.1 q.2) = true := by decide +kernel
set_option maxRecDepth 100000 in
theorem pg_k46 : pg_t46.all (fun q => mm_ok pg_S 46 q.1 q.2) = true := by decide +kernel
set_option maxRecDepth 100000 in
theorem pg_k47 : pg_t47.all (fun q => mm_ok pg_S 47 q.1 q.2) = true := by decide +kernel
set_option maxRecDepth 100000 in
theorem pg_k48 : pg_t48.all (fun q => mm_ok pg_S 48 q.1 q.2) = true := by decide +kernel
set_option maxRecDepth 100000 in
theorem pg_k49 : pg_t49.all (fun q => mm_ok pg_S 49 q.1 q.2) = true := by decide +kernel
set_option maxRecDepth 100000 in
theorem pg_k50 : pg_t50.all (fun q => mm_ok pg_S 50 q.1 q.2) = true := by decide +kernel
set_option maxRecDepth 100000 in
theorem pg_k51 : pg_t51.all (fun q => mm_ok pg_S 51 q.1 q.2) = true := by decide +kernel
set_option maxRecDepth 100000 in
theorem pg_k52 : pg_t52.all (fun q => mm_ok pg_S 52 q.1 q.2) = true := by decide +kernel
set_option maxRecDepth 100000 in
theorem pg_k53 : pg_t53.all (fun q => mm_ok pg_S 53 q.1 q.2) = true := by decide +kernel
set_option maxRecDepth 100000 in
theorem pg_k54 : pg_t54.all (fun q => mm_ok pg_S 54 q.1 q.2) = true := by decide +kernel
set_option maxRecDepth 100000 in
theorem pg_k55 : pg_t55.all (fun q => mm_ok pg_S 55 q.1 q.2) = true := by decide +kernel
set_option maxRecDepth 100000 in
theorem pg_k56 : pg_t56.all (fun q => mm_ok pg_S 56 q.1 q.2) = true := by decide +kernel
set_option maxRecDepth 100000 in
theorem pg_k57 : pg_t57.all (fun q => mm_ok pg_S 57 q.1 q.2) = true := by decide +kernel
set_option maxRecDepth 100000 in
theorem pg_k58 : pg_t58.all (fun q => mm_ok pg_S 58 q.1 q.2) = true := by decide +kernel
set_option maxRecDepth 100000 in
theorem pg_k59 : pg_t59.all (fun q => mm_ok pg_S 59 q.1 q.2) = true := by decide +kernel
set_option maxRecDepth 100000 in
theorem pg_k60 : pg_t60.all (fun q => mm_ok pg_S 60 q.1 q.2) = true := by decide +kernel
set_option maxRecDepth 100000 in
theorem pg_k61 : pg_t61.all (fun q => mm_ok pg_S 61 q.1 q.2) = true := by decide +kernel
set_option maxRecDepth 100000 in
theorem pg_k62 : pg_t62.all (fun q => mm_ok pg_S 62 q.1 q.2) = true := by decide +kernel
set_option maxRecDepth 100000 in
theorem pg_k63 : pg_t63.all (fun q => mm_ok pg_S 63 q.1 q.2) = true := by decide +kernel
set_option maxRecDepth 100000 in
theorem pg_k64 : pg_t64.all (fun q => mm_ok pg_S 64 q.1 q.2) = true := by decide +kernel
set_option maxRecDepth 100000 in
theorem pg_k65 : pg_t65.all (fun q => mm_ok pg_S 65 q.1 q.2) = true := by decide +kernel
set_option maxRecDepth 100000 in
theorem pg_k66 : pg_t66.all (fun q => mm_ok pg_S 66 q.1 q.2) = true := by decide +kernel
set_option maxRecDepth 100000 in
theorem pg_k67 : pg_t67.all (fun q => mm_ok pg_S 67 q.1 q.2) = true := by decide +kernel
set_option maxRecDepth 100000 in
theorem pg_k68 : pg_t68.all (fun q => mm_ok pg_S 68 q.1 q.2) = true := by decide +kernel
set_option maxRecDepth 100000 in
theorem pg_k69 : pg_t69.all (fun q => mm_ok pg_S 69 q.1 q.2) = true := by decide +kernel
set_option maxRecDepth 100000 in
theorem pg_k70 : pg_t70.all (fun q => mm_ok pg_S 70 q.1 q.2) = true := by decide +kernel
set_option maxRecDepth 100000 in
theorem pg_k71 : pg_t71.all (fun q => mm_ok pg_S 71 q.1 q.2) = true := by decide +kernel
set_option maxRecDepth 100000 in
theorem pg_k72 : pg_t72.all (fun q => mm_ok pg_S 72 q.1 q.2) = true := by decide +kernel
set_option maxRecDepth 100000 in
theorem pg_k73 : pg_t73.all (fun q => mm_ok pg_S 73 q.1 q.2) = true := by decide +kernel
set_option maxRecDepth 100000 in
theorem pg_k74 : pg_t74.all (fun q => mm_ok pg_S 74 q.1 q.2) = true := by decide +kernel
set_option maxRecDepth 100000 in
theorem pg_k75 : pg_t75.all (fun q => mm_ok pg_S 75 q.1 q.2) = true := by decide +kernel
set_option maxRecDepth 100000 in
theorem pg_k76 : pg_t76.all (fun q => mm_ok pg_S 76 q.1 q.2) = true := by decide +kernel
set_option maxRecDepth 100000 in
theorem pg_k77 : pg_t77.all (fun q => mm_ok pg_S 77 q.1 q.2) = true := by decide +kernel
set_option maxRecDepth 100000 in
theorem pg_k78 : pg_t78.all (fun q => mm_ok pg_S 78 q.1 q.2) = true := by decide +kernel
set_option maxRecDepth 100000 in
theorem pg_k79 : pg_t79.all (fun q => mm_ok pg_S 79 q.1 q.2) = true := by decide +kernel
set_option maxRecDepth 100000 in
theorem pg_k80 : pg_t80.all (fun q => mm_ok pg_S 80 q.1 q.2) = true := by decide +kernel
set_option maxRecDepth 100000 in
theorem pg_k81 : pg_t81.all (fun q => mm_ok pg_S 81 q.1 q.2) = true := by decide +kernel
set_option maxRecDepth 100000 in
theorem pg_k82 : pg_t82.all (fun q => mm_ok pg_S 82 q.1 q.2) = true := by decide +kernel
set_option maxRecDepth 100000 in
theorem pg_k83 : pg_t83.all (fun q => mm_ok pg_S 83 q.1 q.2) = true := by decide +kernel
set_option maxRecDepth 100000 in
theorem pg_k84 : pg_t84.all (fun q => mm_ok pg_S 84 q.1 q.2) = true := by decide +kernel
set_option maxRecDepth 100000 in
theorem pg_k85 : pg_t85.all (fun q => mm_ok pg_S 85 q.1 q.2) = true := by decide +kernel
set_option maxRecDepth 100000 in
theorem pg_k86 : pg_t86.all (fun q => mm_ok pg_S 86 q.1 q.2) = true := by decide +kernel
set_option maxRecDepth 100000 in
theorem pg_k87 : pg_t87.all (fun q => mm_ok pg_S 87 q.1 q.2) = true := by decide +kernel
set_option maxRecDepth 100000 in
theorem pg_k88 : pg_t88.all (fun q => mm_ok pg_S 88 q.1 q.2) = true := by decide +kernel
set_option maxRecDepth 100000 in
theorem pg_k89 : pg_t89.all (fun q => mm_ok pg_S 89 q.1 q.2) = true := by decide +kernel
set_option maxRecDepth 100000 in
theorem pg_k90 : pg_t90.all (fun q => mm_ok pg_S 90 q.1 q.2) = true := by decide +kernel
set_option maxRecDepth 100000 in
theorem pg_k91 : pg_t91.all (fun q => mm_ok pg_S 91 q.1 q.2) = true := by decide +kernel
set_option maxRecDepth 100000 in
theorem pg_k92 : pg_t92.all (fun q => mm_ok pg_S 92 q.1 q.2) = true := by decide +kernel
set_option maxRecDepth 100000 in
theorem pg_k93 : pg_t93.all (fun q => mm_ok pg_S 93 q.1 q.2) = true := by decide +kernel
set_option maxRecDepth 100000 in
theorem pg_k94 : pg_t94.all (fun q => mm_ok pg_S 94 q.1 q.2) = true := by decide +kernel
set_option maxRecDepth 100000 in
theorem pg_k95 : pg_t95.all (fun q => mm_ok pg_S 95 q.1 q.2) = true := by decide +kernel
set_option maxRecDepth 100000 in
theorem pg_k96 : pg_t96.all (fun q => mm_ok pg_S 96 q.1 q.2) = true := by decide +kernel
set_option maxRecDepth 100000 in
theorem pg_k97 : pg_t97.all (fun q => mm_ok pg_S 97 q.1 q.2) = true := by decide +kernel
set_option maxRecDepth 100000 in
theorem pg_k98 : pg_t98.all (fun q => mm_ok pg_S 98 q.1 q.2) = true := by decide +kernel
set_option maxRecDepth 100000 in
theorem pg_k99 : pg_t99.all (fun q => mm_ok pg_S 99 q.1 q.2) = true := by decide +kernel
set_option maxRecDepth 100000 in
theorem pg_k100 : pg_t100.all (fun q => mm_ok pg_S 100 q.1 q.2) = true := by decide +kernel
set_option maxRecDepth 100000 in
theorem pg_k101 : pg_t101.all (fun q => mm_ok pg_S 101 q.1 q.2) = true := by decide +kernel
set_option maxRecDepth 100000 in
theorem pg_k102 : pg_t102.all (fun q => mm_ok pg_S 102 q.1 q.2) = true := by decide +kernel
set_option maxRecDepth 100000 in
theorem pg_k103 : pg_t103.all (fun q => mm_ok pg_S 103 q.1 q.2) = true := by decide +kernel
set_option maxRecDepth 100000 in
theorem pg_k104 : pg_t104.all (fun q => mm_ok pg_S 104 q.1 q.2) = true := by decide +kernel
theorem pg_kall : ∀ μ, (pg_ls.getD μ []).all (fun q => mm_ok pg_S μ q.1 q.2) = true
  | 0 => pg_k0
  | 1 => pg_k1
  | 2 => pg_k2
  | 3 => pg_k3
  | 4 => pg_k4
  | 5 => pg_k5
  | 6 => pg_k6
  | 7 => pg_k7
  | 8 => pg_k8
  | 9 => pg_k9
  | 10 => pg_k10
  | 11 => pg_k11
  | 12 => pg_k12
  | 13 => pg_k13
  | 14 => pg_k14
  | 15 => pg_k15
  | 16 => pg_k16
  | 17 => pg_k17
  | 18 => pg_k18
  | 19 => pg_k19
  | 20 => pg_k20
  | 21 => pg_k21
  | 22 => pg_k22
  | 23 => pg_k23
  | 24 => pg_k24
  | 25 => pg_k25
  | 26 => pg_k26
  | 27 => pg_k27
  | 28 => pg_k28
  | 29 => pg_k29
  | 30 => pg_k30
  | 31 => pg_k31
  | 32 => pg_k32
  | 33 => pg_k33
  | 34 => pg_k34
  | 35 => pg_k35
  | 36 => pg_k36
  | 37 => pg_k37
  | 38 => pg_k38
  | 39 => pg_k39
  | 40 => pg_k40
  | 41 => pg_k41
  | 42 => pg_k42
  | 43 => pg_k43
  | 44 => pg_k44
  | 45 => pg_k45
  | 46 => pg_k46
  | 47 => pg_k47
  | 48 => pg_k48
  | 49 => pg_k49
  | 50 => pg_k50
  | 51 => pg_k51
  | 52 => pg_k52
  | 53 => pg_k53
  | 54 => pg_k54
  | 55 => pg_k55
  | 56 => pg_k56
  | 57 => pg_k57
  | 58 => pg_k58
  | 59 => pg_k59
  | 60 => pg_k60
  | 61 => pg_k61
  | 62 => pg_k62
  | 63 => pg_k63
  | 64 => pg_k64
  | 65 => pg_k65
  | 66 => pg_k66
  | 67 => pg_k67
  | 68 => pg_k68
  | 69 => pg_k69
  | 70 => pg_k70
  | 71 => pg_k71
  | 72 => pg_k72
  | 73 => pg_k73
  | 74 => pg_k74
  | 75 => pg_k75
  | 76 => pg_k76
  | 77 => pg_k77
  | 78 => pg_k78
  | 79 => pg_k79
  | 80 => pg_k80
  | 81 => pg_k81
  | 82 => pg_k82
  | 83 => pg_k83
  | 84 => pg_k84
  | 85 => pg_k85
  | 86 => pg_k86
  | 87 => pg_k87
  | 88 => pg_k88
  | 89 => pg_k89
  | 90 => pg_k90
  | 91 => pg_k91
  | 92 => pg_k92
  | 93 => pg_k93
  | 94 => pg_k94
  | 95 => pg_k95
  | 96 => pg_k96
  | 97 => pg_k97
  | 98 => pg_k98
  | 99 => pg_k99
  | 100 => pg_k100
  | 101 => pg_k101
  | 102 => pg_k102
  | 103 => pg_k103
  | 104 => pg_k104
  | _ + 105 => rfl
theorem pg_lookup {pc : Nat} {e : mm_E} : ∀ l : List (Nat × mm_E), l.lookup pc = some e → (pc, e) ∈ l
  | [], h => by cases h
  | (k, b) :: l, h => by
    by_cases hk : pc = k
    · subst hk
      rw [List.lookup_cons_self] at h
      cases h
      exact List.mem_cons_self
    · rw [List.lookup_cons, show (pc == k) = false from by simpa using hk] at h
      exact List.mem_cons_of_mem _ (pg_lookup l h)
theorem pg_good : mm_Good pg_S := by
  refine ⟨fun μ pc e h => ?_, pg_AL_good, ⟨by decide, pg_cok⟩, ⟨pg_mok, pg_NL_good⟩, List.mem_of_getElem? (i := 76) (by decide +kernel), ⟨List.mem_of_getElem? (i := 45) (by decide +kernel), List.mem_of_getElem? (i := 46) (by decide +kernel)⟩, List.mem_of_getElem? (i := 209) (by decide +kernel), List.mem_of_getElem? (i := 38) (by decide +kernel), List.mem_of_getElem? (i := 210) (by decide +kernel)⟩
  exact List.all_eq_true.mp (pg_kall μ) (pc, e) (pg_lookup _ h)
end
section
/-! ints by their numbers -/
abbrev io_v (a : Int) : Value := .int (Int32.ofInt a)
abbrev io_R (a : Int) : Prop := -2147483648 ≤ a ∧ a < 2147483648
theorem io_toInt {a : Int} (h : io_R a) : (Int32.ofInt a).toInt = a := Int32.toInt_ofInt_of_le (by simpa using h.1) (by simpa using h.2)
theorem io_add (a b : Int) : Int32.ofInt a + Int32.ofInt b = Int32.ofInt (a + b) := (Int32.ofInt_add a b).symm
theorem io_sub (a b : Int) : Int32.ofInt a - Int32.ofInt b = Int32.ofInt (a - b) := (Int32.ofInt_sub a b).symm
theorem io_mul (a b : Int) : Int32.ofInt a * Int32.ofInt b = Int32.ofInt (a * b) := (Int32.ofInt_mul a b).symm
theorem io_lt {a b : Int} (ha : io_R a) (hb : io_R b) : (Int32.ofInt a < Int32.ofInt b) = (a < b) := by
  rw [Int32.lt_iff_toInt_lt, io_toInt ha, io_toInt hb]
theorem io_le {a b : Int} (ha : io_R a) (hb : io_R b) : (Int32.ofInt a ≤ Int32.ofInt b) = (a ≤ b) := by
  rw [Int32.le_iff_toInt_le, io_toInt ha, io_toInt hb]
theorem io_eq {a b : Int} (ha : io_R a) (hb : io_R b) : (Int32.ofInt a = Int32.ofInt b) = (a = b) := by
  rw [← Int32.toInt_inj, io_toInt ha, io_toInt hb]
theorem io_zero : (0 : Int32) = Int32.ofInt 0 := by decide
theorem io_one : (1 : Int32) = Int32.ofInt 1 := by decide
theorem io_lt0 {a : Int} (ha : io_R a) : (Int32.ofInt a < 0) = (a < 0) := by rw [io_zero, io_lt ha (by decide)]
theorem io_le0 {a : Int} (ha : io_R a) : (Int32.ofInt a ≤ 0) = (a ≤ 0) := by rw [io_zero, io_le ha (by decide)]
theorem io_0lt {a : Int} (ha : io_R a) : (0 < Int32.ofInt a) = (0 < a) := by rw [io_zero, io_lt (by decide) ha]
theorem io_0le {a : Int} (ha : io_R a) : (0 ≤ Int32.ofInt a) = (0 ≤ a) := by rw [io_zero, io_le (by decide) ha]
theorem io_eq0 {a : Int} (ha : io_R a) : (Int32.ofInt a = 0) = (a = 0) := by rw [io_zero, io_eq ha (by decide)]
theorem io_nat {a : Int} (ha : io_R a) : (Int32.ofInt a).toNatClampNeg = a.toNat := by
  show (Int32.ofInt a).toInt.toNat = a.toNat
  rw [io_toInt ha]
theorem io_of (x : Int32) : Int32.ofInt x.toInt = x := Int32.ofInt_toInt x
theorem io_rng (x : Int32) : io_R x.toInt := ⟨by have := x.le_toInt; simpa using this, by have := x.toInt_lt; simpa using this⟩
theorem io_max (a b : Int) (ha : io_R a) (hb : io_R b) : (if Int32.ofInt a < Int32.ofInt b then Int32.ofInt b else Int32.ofInt a) = Int32.ofInt (max a b) := by
  by_cases h : a < b
  · rw [if_pos (by rw [io_lt ha hb]; exact h), Int.max_eq_right (by omega)]
  · rw [if_neg (by rw [io_lt ha hb]; exact h), Int.max_eq_left (by omega)]
abbrev jo_R (a : Int) : Prop := -9223372036854775808 ≤ a ∧ a < 9223372036854775808
theorem jo_toInt {a : Int} (h : jo_R a) : (Int64.ofInt a).toInt = a := Int64.toInt_ofInt_of_le (by simpa using h.1) (by simpa using h.2)
theorem jo_i2l {a : Int} (ha : io_R a) : (Int32.ofInt a).toInt64 = Int64.ofInt a := by
  rw [← Int64.toInt_inj, Int32.toInt_toInt64, io_toInt ha, jo_toInt (by omega)]
theorem jo_add (a b : Int) : Int64.ofInt a + Int64.ofInt b = Int64.ofInt (a + b) := (Int64.ofInt_add a b).symm
theorem jo_sub (a b : Int) : Int64.ofInt a - Int64.ofInt b = Int64.ofInt (a - b) := (Int64.ofInt_sub a b).symm
theorem jo_mul (a b : Int) : Int64.ofInt a * Int64.ofInt b = Int64.ofInt (a * b) := (Int64.ofInt_mul a b).symm
theorem jo_div {a b : Int} (ha : 0 ≤ a ∧ a < 9223372036854775808) (hb : 0 < b ∧ b < 9223372036854775808) : Int64.ofInt a / Int64.ofInt b = Int64.ofInt (a / b) := by
  rw [← Int64.toInt_inj, lg_ldiv_nonneg (by rw [jo_toInt (by omega)]; exact ha.1) (by rw [jo_toInt (by omega)]; exact hb.1), jo_toInt (by omega), jo_toInt (by omega), jo_toInt]
  have h1 : 0 ≤ a / b := Int.ediv_nonneg ha.1 (by omega)
  have h2 : a / b ≤ a := Int.ediv_le_self b ha.1
  omega
theorem jo_le {a b : Int} (ha : jo_R a) (hb : jo_R b) : (Int64.ofInt a ≤ Int64.ofInt b) = (a ≤ b) := by
  rw [Int64.le_iff_toInt_le, jo_toInt ha, jo_toInt hb]
theorem jo_lt {a b : Int} (ha : jo_R a) (hb : jo_R b) : (Int64.ofInt a < Int64.ofInt b) = (a < b) := by
  rw [Int64.lt_iff_toInt_lt, jo_toInt ha, jo_toInt hb]
theorem jo_eq {a b : Int} (ha : jo_R a) (hb : jo_R b) : (Int64.ofInt a = Int64.ofInt b) = (a = b) := by
  rw [← Int64.toInt_inj, jo_toInt ha, jo_toInt hb]
end
section
/-! the memory by numbers: I x k is the number in slot k of the cell x. Cells: 0 the kernel, 1 its tasks, 2 its ceilings, 3 its server, 4 the server's needs, 5 its trace, 6 the trace's codes, 7 the script, 8 the reference, 9 to 27 its arrays; behind 32, eight for each task: the task, its sections, its job, the job's counted spells, four sections -/
abbrev sp_I : Type := Nat → Nat → Int
def ad_t (i : Nat) : Nat := 32 + 8 * i
def ad_a (i : Nat) : Nat := 33 + 8 * i
def ad_j (i : Nat) : Nat := 34 + 8 * i
def ad_c (i : Nat) : Nat := 35 + 8 * i
def ad_s (i k : Nat) : Nat := 36 + 8 * i + k
def sp_n (I : sp_I) : Nat := (I 0 4).toNat
def sp_c (I : sp_I) (i : Nat) : Nat := (I (ad_t i) 5).toNat
def sp_T0 (I : sp_I) (x : Nat) : Option (Nat × Nat) := match x with
  | 0 => some (0, 8)
  | 1 => some (102, 6)
  | 2 => some (100, 4)
  | 3 => some (1, 9)
  | 4 => some (100, 8)
  | 5 => some (2, 4)
  | 6 => some (100, 64)
  | 7 => some (101, (I 30 0).toNat)
  | 8 => some (6, 35)
  | 9 => some (100, 6)
  | 10 => some (100, 6)
  | 11 => some (100, 6)
  | 12 => some (100, 6)
  | 13 => some (100, 24)
  | 14 => some (100, 24)
  | 15 => some (100, 24)
  | 16 => some (100, 8)
  | 17 => some (100, 6)
  | 18 => some (100, 6)
  | 19 => some (100, 6)
  | 20 => some (100, 6)
  | 21 => some (100, 6)
  | 22 => some (100, 6)
  | 23 => some (100, 6)
  | 24 => some (100, 360)
  | 25 => some (100, 6)
  | 26 => some (100, 6)
  | 27 => some (100, 64)
  | _ => none
def sp_T1 (I : sp_I) (i o : Nat) : Option (Nat × Nat) := match o with
  | 0 => some (3, 10)
  | 1 => some (103, 4)
  | 2 => some (5, 7)
  | 3 => some (100, 6)
  | k + 4 => if k < sp_c I i then some (4, 3) else none
def sp_T (I : sp_I) : mm_T := fun x => if x < 32 then sp_T0 I x else if (x - 32) / 8 < sp_n I then sp_T1 I ((x - 32) / 8) ((x - 32) % 8) else none
/-- the references of the cells that are always there -/
def sp_V0 (I : sp_I) (x k : Nat) : Value := match x with
  | 0 => (match k with
    | 0 => .ref 1
    | 1 => .ref 2
    | 2 => .ref 3
    | 3 => .ref 5
    | _ => io_v (I 0 k))
  | 1 => if k < sp_n I then .ref (ad_t k) else .null
  | 3 => (match k with
    | 0 => .ref 4
    | _ => io_v (I 3 k))
  | 5 => (match k with
    | 0 => .ref 6
    | _ => io_v (I 5 k))
  | 8 => (match k with
    | 1 => .ref 9
    | 2 => .ref 10
    | 3 => .ref 11
    | 4 => .ref 12
    | 5 => .ref 13
    | 6 => .ref 14
    | 7 => .ref 15
    | 15 => .ref 16
    | 18 => .ref 17
    | 19 => .ref 18
    | 20 => .ref 19
    | 21 => .ref 20
    | 22 => .ref 21
    | 23 => .ref 22
    | 24 => .ref 23
    | 25 => .ref 24
    | 26 => .ref 25
    | 27 => .ref 26
    | 34 => .ref 27
    | _ => io_v (I 8 k))
  | _ => io_v (I x k)
def sp_V1 (I : sp_I) (i o x k : Nat) : Value := match o with
  | 0 => (match k with
    | 3 => .ref (ad_a i)
    | 4 => .ref (ad_j i)
    | _ => io_v (I x k))
  | 1 => if k < sp_c I i then .ref (ad_s i k) else .null
  | 2 => (match k with
    | 0 => .ref (ad_c i)
    | _ => io_v (I x k))
  | _ => io_v (I x k)
def sp_V (I : sp_I) : mm_V := fun x k => if x < 32 then sp_V0 I x k else sp_V1 I ((x - 32) / 8) ((x - 32) % 8) x k
def sp_me (I : sp_I) (c s : Nat) : mm_M := (sp_T I, sp_V I, c, s)
def up_I (I : sp_I) (x k : Nat) (a : Int) : sp_I := fun y j => if y = x ∧ j = k then a else I y j
theorem up_same (I : sp_I) (x k : Nat) (a : Int) : up_I I x k a x k = a := by unfold up_I; rw [if_pos ⟨rfl, rfl⟩]
theorem up_slot {I : sp_I} {x k y j : Nat} {a : Int} (h : j ≠ k) : up_I I x k a y j = I y j := by unfold up_I; rw [if_neg (fun q => h q.2)]
theorem up_cell {I : sp_I} {x k y j : Nat} {a : Int} (h : y ≠ x) : up_I I x k a y j = I y j := by unfold up_I; rw [if_neg (fun q => h q.1)]
theorem sp_t_div (i : Nat) : ¬ ad_t i < 32 ∧ (ad_t i - 32) / 8 = i ∧ (ad_t i - 32) % 8 = 0 := by unfold ad_t; omega
theorem sp_a_div (i : Nat) : ¬ ad_a i < 32 ∧ (ad_a i - 32) / 8 = i ∧ (ad_a i - 32) % 8 = 1 := by unfold ad_a; omega
theorem sp_j_div (i : Nat) : ¬ ad_j i < 32 ∧ (ad_j i - 32) / 8 = i ∧ (ad_j i - 32) % 8 = 2 := by unfold ad_j; omega
theorem sp_c_div (i : Nat) : ¬ ad_c i < 32 ∧ (ad_c i - 32) / 8 = i ∧ (ad_c i - 32) % 8 = 3 := by unfold ad_c; omega
theorem sp_s_div (i k : Nat) (h : k < 4) : ¬ ad_s i k < 32 ∧ (ad_s i k - 32) / 8 = i ∧ (ad_s i k - 32) % 8 = k + 4 := by unfold ad_s; omega
theorem sp_T_t {I : sp_I} {i : Nat} (h : i < sp_n I) : sp_T I (ad_t i) = some (3, 10) := by
  obtain ⟨a, b, c⟩ := sp_t_div i
  unfold sp_T
  rw [if_neg a, b, c, if_pos h]
  rfl
theorem sp_T_a {I : sp_I} {i : Nat} (h : i < sp_n I) : sp_T I (ad_a i) = some (103, 4) := by
  obtain ⟨a, b, c⟩ := sp_a_div i
  unfold sp_T
  rw [if_neg a, b, c, if_pos h]
  rfl
theorem sp_T_j {I : sp_I} {i : Nat} (h : i < sp_n I) : sp_T I (ad_j i) = some (5, 7) := by
  obtain ⟨a, b, c⟩ := sp_j_div i
  unfold sp_T
  rw [if_neg a, b, c, if_pos h]
  rfl
theorem sp_T_c {I : sp_I} {i : Nat} (h : i < sp_n I) : sp_T I (ad_c i) = some (100, 6) := by
  obtain ⟨a, b, c⟩ := sp_c_div i
  unfold sp_T
  rw [if_neg a, b, c, if_pos h]
  rfl
theorem sp_T_s {I : sp_I} {i k : Nat} (h : i < sp_n I) (h4 : k < 4) (hk : k < sp_c I i) : sp_T I (ad_s i k) = some (4, 3) := by
  obtain ⟨a, b, c⟩ := sp_s_div i k h4
  unfold sp_T
  rw [if_neg a, b, c, if_pos h]
  show (if k < sp_c I i then _ else _) = _
  rw [if_pos hk]
theorem sp_V_1 {I : sp_I} {k : Nat} (h : k < sp_n I) : sp_V I 1 k = .ref (ad_t k) := by
  show (if k < sp_n I then _ else _) = _
  rw [if_pos h]
theorem sp_V_a {I : sp_I} {i k : Nat} (h : k < sp_c I i) : sp_V I (ad_a i) k = .ref (ad_s i k) := by
  obtain ⟨a, b, c⟩ := sp_a_div i
  unfold sp_V
  rw [if_neg a, b, c]
  show (if k < sp_c I i then _ else _) = _
  rw [if_pos h]
theorem sp_V_t0 (I : sp_I) (i : Nat) : sp_V I (ad_t i) 0 = io_v (I (ad_t i) 0) := by
  obtain ⟨a, b, c⟩ := sp_t_div i
  unfold sp_V
  rw [if_neg a, b, c]
  rfl
theorem sp_V_t1 (I : sp_I) (i : Nat) : sp_V I (ad_t i) 1 = io_v (I (ad_t i) 1) := by
  obtain ⟨a, b, c⟩ := sp_t_div i
  unfold sp_V
  rw [if_neg a, b, c]
  rfl
theorem sp_V_t2 (I : sp_I) (i : Nat) : sp_V I (ad_t i) 2 = io_v (I (ad_t i) 2) := by
  obtain ⟨a, b, c⟩ := sp_t_div i
  unfold sp_V
  rw [if_neg a, b, c]
  rfl
theorem sp_V_t5 (I : sp_I) (i : Nat) : sp_V I (ad_t i) 5 = io_v (I (ad_t i) 5) := by
  obtain ⟨a, b, c⟩ := sp_t_div i
  unfold sp_V
  rw [if_neg a, b, c]
  rfl
theorem sp_V_t6 (I : sp_I) (i : Nat) : sp_V I (ad_t i) 6 = io_v (I (ad_t i) 6) := by
  obtain ⟨a, b, c⟩ := sp_t_div i
  unfold sp_V
  rw [if_neg a, b, c]
  rfl
theorem sp_V_t7 (I : sp_I) (i : Nat) : sp_V I (ad_t i) 7 = io_v (I (ad_t i) 7) := by
  obtain ⟨a, b, c⟩ := sp_t_div i
  unfold sp_V
  rw [if_neg a, b, c]
  rfl
theorem sp_V_t8 (I : sp_I) (i : Nat) : sp_V I (ad_t i) 8 = io_v (I (ad_t i) 8) := by
  obtain ⟨a, b, c⟩ := sp_t_div i
  unfold sp_V
  rw [if_neg a, b, c]
  rfl
theorem sp_V_t9 (I : sp_I) (i : Nat) : sp_V I (ad_t i) 9 = io_v (I (ad_t i) 9) := by
  obtain ⟨a, b, c⟩ := sp_t_div i
  unfold sp_V
  rw [if_neg a, b, c]
  rfl
theorem sp_V_t3 (I : sp_I) (i : Nat) : sp_V I (ad_t i) 3 = .ref (ad_a i) := by
  obtain ⟨a, b, c⟩ := sp_t_div i
  unfold sp_V
  rw [if_neg a, b, c]
  rfl
theorem sp_V_t4 (I : sp_I) (i : Nat) : sp_V I (ad_t i) 4 = .ref (ad_j i) := by
  obtain ⟨a, b, c⟩ := sp_t_div i
  unfold sp_V
  rw [if_neg a, b, c]
  rfl
theorem sp_V_j0 (I : sp_I) (i : Nat) : sp_V I (ad_j i) 0 = .ref (ad_c i) := by
  obtain ⟨a, b, c⟩ := sp_j_div i
  unfold sp_V
  rw [if_neg a, b, c]
  rfl
theorem sp_V_j1 (I : sp_I) (i : Nat) : sp_V I (ad_j i) 1 = io_v (I (ad_j i) 1) := by
  obtain ⟨a, b, c⟩ := sp_j_div i
  unfold sp_V
  rw [if_neg a, b, c]
  rfl
theorem sp_V_j2 (I : sp_I) (i : Nat) : sp_V I (ad_j i) 2 = io_v (I (ad_j i) 2) := by
  obtain ⟨a, b, c⟩ := sp_j_div i
  unfold sp_V
  rw [if_neg a, b, c]
  rfl
theorem sp_V_j3 (I : sp_I) (i : Nat) : sp_V I (ad_j i) 3 = io_v (I (ad_j i) 3) := by
  obtain ⟨a, b, c⟩ := sp_j_div i
  unfold sp_V
  rw [if_neg a, b, c]
  rfl
theorem sp_V_j4 (I : sp_I) (i : Nat) : sp_V I (ad_j i) 4 = io_v (I (ad_j i) 4) := by
  obtain ⟨a, b, c⟩ := sp_j_div i
  unfold sp_V
  rw [if_neg a, b, c]
  rfl
theorem sp_V_j5 (I : sp_I) (i : Nat) : sp_V I (ad_j i) 5 = io_v (I (ad_j i) 5) := by
  obtain ⟨a, b, c⟩ := sp_j_div i
  unfold sp_V
  rw [if_neg a, b, c]
  rfl
theorem sp_V_j6 (I : sp_I) (i : Nat) : sp_V I (ad_j i) 6 = io_v (I (ad_j i) 6) := by
  obtain ⟨a, b, c⟩ := sp_j_div i
  unfold sp_V
  rw [if_neg a, b, c]
  rfl
theorem sp_V_c (I : sp_I) (i k : Nat) : sp_V I (ad_c i) k = io_v (I (ad_c i) k) := by
  obtain ⟨a, b, c⟩ := sp_c_div i
  unfold sp_V
  rw [if_neg a, b, c]
  rfl
theorem sp_V_s {I : sp_I} {i k j : Nat} (h : k < 4) : sp_V I (ad_s i k) j = io_v (I (ad_s i k) j) := by
  obtain ⟨a, b, c⟩ := sp_s_div i k h
  unfold sp_V
  rw [if_neg a, b, c]
  rfl
/-- what a store of a number does -/
theorem sp_wr {I : sp_I} {x k c s : Nat} {a : Int} (hx : ∀ J : sp_I, sp_V J x k = io_v (J x k)) (h4 : ¬ (0 = x ∧ 4 = k)) (h5 : ∀ i, ¬ (ad_t i = x ∧ 5 = k)) (h30 : ¬ (30 = x ∧ 0 = k)) : mm_wr (sp_me I c s) x k (io_v a) = sp_me (up_I I x k a) c s := by
  have hn : sp_n (up_I I x k a) = sp_n I := by unfold sp_n up_I; rw [if_neg h4]
  have hc : ∀ i, sp_c (up_I I x k a) i = sp_c I i := fun i => by unfold sp_c up_I; rw [if_neg (h5 i)]
  have h3 : up_I I x k a 30 0 = I 30 0 := by unfold up_I; rw [if_neg h30]
  have hT : sp_T (up_I I x k a) = sp_T I := by
    funext y
    unfold sp_T sp_T0 sp_T1
    simp only [hn, hc, h3]
  have hV : mm_up (sp_V I) x k (io_v a) = sp_V (up_I I x k a) := by
    funext y j
    unfold mm_up
    by_cases e : y = x ∧ j = k
    · rw [if_pos e]
      obtain ⟨rfl, rfl⟩ := e
      rw [hx, up_same]
    · rw [if_neg e]
      have e1 : up_I I x k a y j = I y j := by unfold up_I; rw [if_neg e]
      unfold sp_V
      split
      · unfold sp_V0
        split <;> first | (rw [hn]; done) | (split <;> first | rfl | (rw [e1]; done)) | (rw [e1]; done) | skip
      · unfold sp_V1
        split <;> first | (rw [hc]; done) | (split <;> first | rfl | (rw [e1]; done)) | (rw [e1]; done) | skip
  show (sp_T I, mm_up (sp_V I) x k (io_v a), c, s) = (sp_T (up_I I x k a), sp_V (up_I I x k a), c, s)
  rw [hV, hT]
end
section
/-! a row an instruction of the program -/
theorem tb_0_0 : mm_tb pg_G 0 0 = some (.aload_n 0, 0, 0, 0) := rfl
theorem st_0_0 {l1 l2 l3 : Value} {d : Nat} {t : List Value} {g : mm_M} {r : mm_R} {x : Nat} : mm_Rn pg_G d 0 0 [.ref x, l1, l2, l3] (t) g r ↔ mm_Rn pg_G d 0 1 [.ref x, l1, l2, l3] (.ref x :: t) g r := rn_aload_n tb_0_0 rfl r
theorem tb_0_1 : mm_tb pg_G 0 1 = some (.invokespecial 1, 998, 0, 194) := rfl
theorem st_0_1 {d : Nat} {ls t : List Value} {g : mm_M} {r : mm_R} {x : Nat} (hl : t.length ≤ 4) : mm_Rn pg_G (d + 1) 0 1 ls (.ref x :: t) g r ↔ mm_Rn pg_G (d + 1) 0 4 ls (t) g r := rn_oinit tb_0_1 hl r
theorem tb_0_4 : mm_tb pg_G 0 4 = some (.aload_n 0, 0, 0, 0) := rfl
theorem st_0_4 {l1 l2 l3 : Value} {d : Nat} {t : List Value} {g : mm_M} {r : mm_R} {x : Nat} : mm_Rn pg_G d 0 4 [.ref x, l1, l2, l3] (t) g r ↔ mm_Rn pg_G d 0 5 [.ref x, l1, l2, l3] (.ref x :: t) g r := rn_aload_n tb_0_4 rfl r
theorem tb_0_5 : mm_tb pg_G 0 5 = some (.iload_n 1, 0, 0, 0) := rfl
theorem st_0_5 {l0 l2 l3 : Value} {d : Nat} {t : List Value} {g : mm_M} {r : mm_R} {x : Int32} : mm_Rn pg_G d 0 5 [l0, .int x, l2, l3] (t) g r ↔ mm_Rn pg_G d 0 6 [l0, .int x, l2, l3] (.int x :: t) g r := rn_iload_n tb_0_5 rfl r
theorem tb_0_6 : mm_tb pg_G 0 6 = some (.putfield 7, 4, 0, 195) := rfl
theorem st_0_6 {d : Nat} {ls t : List Value} {g : mm_M} {r : mm_R} {x : Nat} {v : Int32} (hT : g.1 x = some (4, 3)) : mm_Rn pg_G d 0 6 ls (.int v :: .ref x :: t) g r ↔ mm_Rn pg_G d 0 9 ls (t) (mm_wr g x 0 (.int v)) r := rn_putfield tb_0_6 hT rfl r
theorem tb_0_9 : mm_tb pg_G 0 9 = some (.aload_n 0, 0, 0, 0) := rfl
theorem st_0_9 {l1 l2 l3 : Value} {d : Nat} {t : List Value} {g : mm_M} {r : mm_R} {x : Nat} : mm_Rn pg_G d 0 9 [.ref x, l1, l2, l3] (t) g r ↔ mm_Rn pg_G d 0 10 [.ref x, l1, l2, l3] (.ref x :: t) g r := rn_aload_n tb_0_9 rfl r
theorem tb_0_10 : mm_tb pg_G 0 10 = some (.iload_n 2, 0, 0, 0) := rfl
theorem st_0_10 {l0 l1 l3 : Value} {d : Nat} {t : List Value} {g : mm_M} {r : mm_R} {x : Int32} : mm_Rn pg_G d 0 10 [l0, l1, .int x, l3] (t) g r ↔ mm_Rn pg_G d 0 11 [l0, l1, .int x, l3] (.int x :: t) g r := rn_iload_n tb_0_10 rfl r
theorem tb_0_11 : mm_tb pg_G 0 11 = some (.putfield 13, 4, 1, 197) := rfl
theorem st_0_11 {d : Nat} {ls t : List Value} {g : mm_M} {r : mm_R} {x : Nat} {v : Int32} (hT : g.1 x = some (4, 3)) : mm_Rn pg_G d 0 11 ls (.int v :: .ref x :: t) g r ↔ mm_Rn pg_G d 0 14 ls (t) (mm_wr g x 1 (.int v)) r := rn_putfield tb_0_11 hT rfl r
theorem tb_0_14 : mm_tb pg_G 0 14 = some (.aload_n 0, 0, 0, 0) := rfl
theorem st_0_14 {l1 l2 l3 : Value} {d : Nat} {t : List Value} {g : mm_M} {r : mm_R} {x : Nat} : mm_Rn pg_G d 0 14 [.ref x, l1, l2, l3] (t) g r ↔ mm_Rn pg_G d 0 15 [.ref x, l1, l2, l3] (.ref x :: t) g r := rn_aload_n tb_0_14 rfl r
theorem tb_0_15 : mm_tb pg_G 0 15 = some (.iload_n 3, 0, 0, 0) := rfl
theorem st_0_15 {l0 l1 l2 : Value} {d : Nat} {t : List Value} {g : mm_M} {r : mm_R} {x : Int32} : mm_Rn pg_G d 0 15 [l0, l1, l2, .int x] (t) g r ↔ mm_Rn pg_G d 0 16 [l0, l1, l2, .int x] (.int x :: t) g r := rn_iload_n tb_0_15 rfl r
theorem tb_0_16 : mm_tb pg_G 0 16 = some (.putfield 16, 4, 2, 199) := rfl
theorem st_0_16 {d : Nat} {ls t : List Value} {g : mm_M} {r : mm_R} {x : Nat} {v : Int32} (hT : g.1 x = some (4, 3)) : mm_Rn pg_G d 0 16 ls (.int v :: .ref x :: t) g r ↔ mm_Rn pg_G d 0 19 ls (t) (mm_wr g x 2 (.int v)) r := rn_putfield tb_0_16 hT rfl r
theorem tb_0_19 : mm_tb pg_G 0 19 = some (.return_, 0, 0, 0) := rfl
theorem st_0_19 {d : Nat} {ls : List Value} {g : mm_M} {r : mm_R} : mm_Rn pg_G d 0 19 ls [] g r ↔ r = (none, g) := rn_return_iff tb_0_19 rfl r
theorem tb_1_0 : mm_tb pg_G 1 0 = some (.iload_n 3, 0, 0, 0) := rfl
theorem st_1_0 {l0 l1 l2 l4 l5 l6 : Value} {d : Nat} {t : List Value} {g : mm_M} {r : mm_R} {x : Int32} : mm_Rn pg_G d 1 0 [l0, l1, l2, .int x, l4, l5, l6] (t) g r ↔ mm_Rn pg_G d 1 1 [l0, l1, l2, .int x, l4, l5, l6] (.int x :: t) g r := rn_iload_n tb_1_0 rfl r
theorem tb_1_1 : mm_tb pg_G 1 1 = some (.aload_n 0, 0, 0, 0) := rfl
theorem st_1_1 {l1 l2 l3 l4 l5 l6 : Value} {d : Nat} {t : List Value} {g : mm_M} {r : mm_R} {x : Nat} : mm_Rn pg_G d 1 1 [.ref x, l1, l2, l3, l4, l5, l6] (t) g r ↔ mm_Rn pg_G d 1 2 [.ref x, l1, l2, l3, l4, l5, l6] (.ref x :: t) g r := rn_aload_n tb_1_1 rfl r
theorem tb_1_2 : mm_tb pg_G 1 2 = some (.getfield 13, 4, 1, 197) := rfl
theorem st_1_2 {d : Nat} {ls t : List Value} {g : mm_M} {r : mm_R} {x : Nat} (hT : g.1 x = some (4, 3)) : mm_Rn pg_G d 1 2 ls (.ref x :: t) g r ↔ mm_Rn pg_G d 1 5 ls (g.2.1 x 1 :: t) g r := rn_getfield tb_1_2 hT r
theorem tb_1_5 : mm_tb pg_G 1 5 = some (.if_icmp .le 11, 16, 0, 0) := rfl
theorem st_1_5 {d : Nat} {ls t : List Value} {g : mm_M} {r : mm_R} {x y : Int32} : mm_Rn pg_G d 1 5 ls (.int y :: .int x :: t) g r ↔ if x ≤ y then mm_Rn pg_G d 1 16 ls (t) g r else mm_Rn pg_G d 1 8 ls (t) g r := rn_icmp_le tb_1_5 r
theorem tb_1_8 : mm_tb pg_G 1 8 = some (.aload_n 0, 0, 0, 0) := rfl
theorem st_1_8 {l1 l2 l3 l4 l5 l6 : Value} {d : Nat} {t : List Value} {g : mm_M} {r : mm_R} {x : Nat} : mm_Rn pg_G d 1 8 [.ref x, l1, l2, l3, l4, l5, l6] (t) g r ↔ mm_Rn pg_G d 1 9 [.ref x, l1, l2, l3, l4, l5, l6] (.ref x :: t) g r := rn_aload_n tb_1_8 rfl r
theorem tb_1_9 : mm_tb pg_G 1 9 = some (.getfield 16, 4, 2, 199) := rfl
theorem st_1_9 {d : Nat} {ls t : List Value} {g : mm_M} {r : mm_R} {x : Nat} (hT : g.1 x = some (4, 3)) : mm_Rn pg_G d 1 9 ls (.ref x :: t) g r ↔ mm_Rn pg_G d 1 12 ls (g.2.1 x 2 :: t) g r := rn_getfield tb_1_9 hT r
theorem tb_1_12 : mm_tb pg_G 1 12 = some (.iload_n 2, 0, 0, 0) := rfl
theorem st_1_12 {l0 l1 l3 l4 l5 l6 : Value} {d : Nat} {t : List Value} {g : mm_M} {r : mm_R} {x : Int32} : mm_Rn pg_G d 1 12 [l0, l1, .int x, l3, l4, l5, l6] (t) g r ↔ mm_Rn pg_G d 1 13 [l0, l1, .int x, l3, l4, l5, l6] (.int x :: t) g r := rn_iload_n tb_1_12 rfl r
theorem tb_1_13 : mm_tb pg_G 1 13 = some (.if_icmp .gt 7, 20, 0, 0) := rfl
theorem st_1_13 {d : Nat} {ls t : List Value} {g : mm_M} {r : mm_R} {x y : Int32} : mm_Rn pg_G d 1 13 ls (.int y :: .int x :: t) g r ↔ if y < x then mm_Rn pg_G d 1 20 ls (t) g r else mm_Rn pg_G d 1 16 ls (t) g r := rn_icmp_gt tb_1_13 r
theorem tb_1_16 : mm_tb pg_G 1 16 = some (.iconst 1, 0, 0, 0) := rfl
theorem st_1_16 {d : Nat} {ls t : List Value} {g : mm_M} {r : mm_R} : mm_Rn pg_G d 1 16 ls (t) g r ↔ mm_Rn pg_G d 1 17 ls (io_v 1 :: t) g r := rn_iconst tb_1_16 r
theorem tb_1_17 : mm_tb pg_G 1 17 = some (.goto 4, 21, 0, 0) := rfl
theorem st_1_17 {d : Nat} {ls t : List Value} {g : mm_M} {r : mm_R} : mm_Rn pg_G d 1 17 ls (t) g r ↔ mm_Rn pg_G d 1 21 ls (t) g r := rn_goto tb_1_17 r
theorem tb_1_20 : mm_tb pg_G 1 20 = some (.iconst 0, 0, 0, 0) := rfl
theorem st_1_20 {d : Nat} {ls t : List Value} {g : mm_M} {r : mm_R} : mm_Rn pg_G d 1 20 ls (t) g r ↔ mm_Rn pg_G d 1 21 ls (io_v 0 :: t) g r := rn_iconst tb_1_20 r
theorem tb_1_21 : mm_tb pg_G 1 21 = some (.istore 4, 0, 0, 0) := rfl
theorem st_1_21 {l0 l1 l2 l3 l4 l5 l6 : Value} {d : Nat} {t : List Value} {g : mm_M} {r : mm_R} {x : Int32} (hc : mm_c1 l3 = true) : mm_Rn pg_G d 1 21 [l0, l1, l2, l3, l4, l5, l6] (.int x :: t) g r ↔ mm_Rn pg_G d 1 23 [l0, l1, l2, l3, .int x, l5, l6] (t) g r := rn_istore tb_1_21 (mm_so_of (ls := [l0, l1, l2, l3, l4, l5, l6]) (v := l3) (Nat.le_of_ble_eq_true rfl) rfl hc) r
theorem tb_1_23 : mm_tb pg_G 1 23 = some (.aload_n 0, 0, 0, 0) := rfl
theorem st_1_23 {l1 l2 l3 l4 l5 l6 : Value} {d : Nat} {t : List Value} {g : mm_M} {r : mm_R} {x : Nat} : mm_Rn pg_G d 1 23 [.ref x, l1, l2, l3, l4, l5, l6] (t) g r ↔ mm_Rn pg_G d 1 24 [.ref x, l1, l2, l3, l4, l5, l6] (.ref x :: t) g r := rn_aload_n tb_1_23 rfl r
theorem tb_1_24 : mm_tb pg_G 1 24 = some (.getfield 13, 4, 1, 197) := rfl
theorem st_1_24 {d : Nat} {ls t : List Value} {g : mm_M} {r : mm_R} {x : Nat} (hT : g.1 x = some (4, 3)) : mm_Rn pg_G d 1 24 ls (.ref x :: t) g r ↔ mm_Rn pg_G d 1 27 ls (g.2.1 x 1 :: t) g r := rn_getfield tb_1_24 hT r
theorem tb_1_27 : mm_tb pg_G 1 27 = some (.iload_n 2, 0, 0, 0) := rfl
theorem st_1_27 {l0 l1 l3 l4 l5 l6 : Value} {d : Nat} {t : List Value} {g : mm_M} {r : mm_R} {x : Int32} : mm_Rn pg_G d 1 27 [l0, l1, .int x, l3, l4, l5, l6] (t) g r ↔ mm_Rn pg_G d 1 28 [l0, l1, .int x, l3, l4, l5, l6] (.int x :: t) g r := rn_iload_n tb_1_27 rfl r
theorem tb_1_28 : mm_tb pg_G 1 28 = some (.if_icmp .gt 15, 43, 0, 0) := rfl
theorem st_1_28 {d : Nat} {ls t : List Value} {g : mm_M} {r : mm_R} {x y : Int32} : mm_Rn pg_G d 1 28 ls (.int y :: .int x :: t) g r ↔ if y < x then mm_Rn pg_G d 1 43 ls (t) g r else mm_Rn pg_G d 1 31 ls (t) g r := rn_icmp_gt tb_1_28 r
theorem tb_1_31 : mm_tb pg_G 1 31 = some (.iload_n 3, 0, 0, 0) := rfl
theorem st_1_31 {l0 l1 l2 l4 l5 l6 : Value} {d : Nat} {t : List Value} {g : mm_M} {r : mm_R} {x : Int32} : mm_Rn pg_G d 1 31 [l0, l1, l2, .int x, l4, l5, l6] (t) g r ↔ mm_Rn pg_G d 1 32 [l0, l1, l2, .int x, l4, l5, l6] (.int x :: t) g r := rn_iload_n tb_1_31 rfl r
theorem tb_1_32 : mm_tb pg_G 1 32 = some (.aload_n 0, 0, 0, 0) := rfl
theorem st_1_32 {l1 l2 l3 l4 l5 l6 : Value} {d : Nat} {t : List Value} {g : mm_M} {r : mm_R} {x : Nat} : mm_Rn pg_G d 1 32 [.ref x, l1, l2, l3, l4, l5, l6] (t) g r ↔ mm_Rn pg_G d 1 33 [.ref x, l1, l2, l3, l4, l5, l6] (.ref x :: t) g r := rn_aload_n tb_1_32 rfl r
theorem tb_1_33 : mm_tb pg_G 1 33 = some (.getfield 16, 4, 2, 199) := rfl
theorem st_1_33 {d : Nat} {ls t : List Value} {g : mm_M} {r : mm_R} {x : Nat} (hT : g.1 x = some (4, 3)) : mm_Rn pg_G d 1 33 ls (.ref x :: t) g r ↔ mm_Rn pg_G d 1 36 ls (g.2.1 x 2 :: t) g r := rn_getfield tb_1_33 hT r
theorem tb_1_36 : mm_tb pg_G 1 36 = some (.if_icmp .gt 7, 43, 0, 0) := rfl
theorem st_1_36 {d : Nat} {ls t : List Value} {g : mm_M} {r : mm_R} {x y : Int32} : mm_Rn pg_G d 1 36 ls (.int y :: .int x :: t) g r ↔ if y < x then mm_Rn pg_G d 1 43 ls (t) g r else mm_Rn pg_G d 1 39 ls (t) g r := rn_icmp_gt tb_1_36 r
theorem tb_1_39 : mm_tb pg_G 1 39 = some (.iconst 1, 0, 0, 0) := rfl
theorem st_1_39 {d : Nat} {ls t : List Value} {g : mm_M} {r : mm_R} : mm_Rn pg_G d 1 39 ls (t) g r ↔ mm_Rn pg_G d 1 40 ls (io_v 1 :: t) g r := rn_iconst tb_1_39 r
theorem tb_1_40 : mm_tb pg_G 1 40 = some (.goto 4, 44, 0, 0) := rfl
theorem st_1_40 {d : Nat} {ls t : List Value} {g : mm_M} {r : mm_R} : mm_Rn pg_G d 1 40 ls (t) g r ↔ mm_Rn pg_G d 1 44 ls (t) g r := rn_goto tb_1_40 r
theorem tb_1_43 : mm_tb pg_G 1 43 = some (.iconst 0, 0, 0, 0) := rfl
theorem st_1_43 {d : Nat} {ls t : List Value} {g : mm_M} {r : mm_R} : mm_Rn pg_G d 1 43 ls (t) g r ↔ mm_Rn pg_G d 1 44 ls (io_v 0 :: t) g r := rn_iconst tb_1_43 r
theorem tb_1_44 : mm_tb pg_G 1 44 = some (.istore 5, 0, 0, 0) := rfl
theorem st_1_44 {l0 l1 l2 l3 l4 l5 l6 : Value} {d : Nat} {t : List Value} {g : mm_M} {r : mm_R} {x : Int32} (hc : mm_c1 l4 = true) : mm_Rn pg_G d 1 44 [l0, l1, l2, l3, l4, l5, l6] (.int x :: t) g r ↔ mm_Rn pg_G d 1 46 [l0, l1, l2, l3, l4, .int x, l6] (t) g r := rn_istore tb_1_44 (mm_so_of (ls := [l0, l1, l2, l3, l4, l5, l6]) (v := l4) (Nat.le_of_ble_eq_true rfl) rfl hc) r
theorem tb_1_46 : mm_tb pg_G 1 46 = some (.iload_n 2, 0, 0, 0) := rfl
theorem st_1_46 {l0 l1 l3 l4 l5 l6 : Value} {d : Nat} {t : List Value} {g : mm_M} {r : mm_R} {x : Int32} : mm_Rn pg_G d 1 46 [l0, l1, .int x, l3, l4, l5, l6] (t) g r ↔ mm_Rn pg_G d 1 47 [l0, l1, .int x, l3, l4, l5, l6] (.int x :: t) g r := rn_iload_n tb_1_46 rfl r
theorem tb_1_47 : mm_tb pg_G 1 47 = some (.aload_n 0, 0, 0, 0) := rfl
theorem st_1_47 {l1 l2 l3 l4 l5 l6 : Value} {d : Nat} {t : List Value} {g : mm_M} {r : mm_R} {x : Nat} : mm_Rn pg_G d 1 47 [.ref x, l1, l2, l3, l4, l5, l6] (t) g r ↔ mm_Rn pg_G d 1 48 [.ref x, l1, l2, l3, l4, l5, l6] (.ref x :: t) g r := rn_aload_n tb_1_47 rfl r
theorem tb_1_48 : mm_tb pg_G 1 48 = some (.getfield 13, 4, 1, 197) := rfl
theorem st_1_48 {d : Nat} {ls t : List Value} {g : mm_M} {r : mm_R} {x : Nat} (hT : g.1 x = some (4, 3)) : mm_Rn pg_G d 1 48 ls (.ref x :: t) g r ↔ mm_Rn pg_G d 1 51 ls (g.2.1 x 1 :: t) g r := rn_getfield tb_1_48 hT r
theorem tb_1_51 : mm_tb pg_G 1 51 = some (.if_icmp .gt 15, 66, 0, 0) := rfl
theorem st_1_51 {d : Nat} {ls t : List Value} {g : mm_M} {r : mm_R} {x y : Int32} : mm_Rn pg_G d 1 51 ls (.int y :: .int x :: t) g r ↔ if y < x then mm_Rn pg_G d 1 66 ls (t) g r else mm_Rn pg_G d 1 54 ls (t) g r := rn_icmp_gt tb_1_51 r
theorem tb_1_54 : mm_tb pg_G 1 54 = some (.aload_n 0, 0, 0, 0) := rfl
theorem st_1_54 {l1 l2 l3 l4 l5 l6 : Value} {d : Nat} {t : List Value} {g : mm_M} {r : mm_R} {x : Nat} : mm_Rn pg_G d 1 54 [.ref x, l1, l2, l3, l4, l5, l6] (t) g r ↔ mm_Rn pg_G d 1 55 [.ref x, l1, l2, l3, l4, l5, l6] (.ref x :: t) g r := rn_aload_n tb_1_54 rfl r
theorem tb_1_55 : mm_tb pg_G 1 55 = some (.getfield 16, 4, 2, 199) := rfl
theorem st_1_55 {d : Nat} {ls t : List Value} {g : mm_M} {r : mm_R} {x : Nat} (hT : g.1 x = some (4, 3)) : mm_Rn pg_G d 1 55 ls (.ref x :: t) g r ↔ mm_Rn pg_G d 1 58 ls (g.2.1 x 2 :: t) g r := rn_getfield tb_1_55 hT r
theorem tb_1_58 : mm_tb pg_G 1 58 = some (.iload_n 3, 0, 0, 0) := rfl
theorem st_1_58 {l0 l1 l2 l4 l5 l6 : Value} {d : Nat} {t : List Value} {g : mm_M} {r : mm_R} {x : Int32} : mm_Rn pg_G d 1 58 [l0, l1, l2, .int x, l4, l5, l6] (t) g r ↔ mm_Rn pg_G d 1 59 [l0, l1, l2, .int x, l4, l5, l6] (.int x :: t) g r := rn_iload_n tb_1_58 rfl r
theorem tb_1_59 : mm_tb pg_G 1 59 = some (.if_icmp .gt 7, 66, 0, 0) := rfl
theorem st_1_59 {d : Nat} {ls t : List Value} {g : mm_M} {r : mm_R} {x y : Int32} : mm_Rn pg_G d 1 59 ls (.int y :: .int x :: t) g r ↔ if y < x then mm_Rn pg_G d 1 66 ls (t) g r else mm_Rn pg_G d 1 62 ls (t) g r := rn_icmp_gt tb_1_59 r
theorem tb_1_62 : mm_tb pg_G 1 62 = some (.iconst 1, 0, 0, 0) := rfl
theorem st_1_62 {d : Nat} {ls t : List Value} {g : mm_M} {r : mm_R} : mm_Rn pg_G d 1 62 ls (t) g r ↔ mm_Rn pg_G d 1 63 ls (io_v 1 :: t) g r := rn_iconst tb_1_62 r
theorem tb_1_63 : mm_tb pg_G 1 63 = some (.goto 4, 67, 0, 0) := rfl
theorem st_1_63 {d : Nat} {ls t : List Value} {g : mm_M} {r : mm_R} : mm_Rn pg_G d 1 63 ls (t) g r ↔ mm_Rn pg_G d 1 67 ls (t) g r := rn_goto tb_1_63 r
theorem tb_1_66 : mm_tb pg_G 1 66 = some (.iconst 0, 0, 0, 0) := rfl
theorem st_1_66 {d : Nat} {ls t : List Value} {g : mm_M} {r : mm_R} : mm_Rn pg_G d 1 66 ls (t) g r ↔ mm_Rn pg_G d 1 67 ls (io_v 0 :: t) g r := rn_iconst tb_1_66 r
theorem tb_1_67 : mm_tb pg_G 1 67 = some (.istore 6, 0, 0, 0) := rfl
theorem st_1_67 {l0 l1 l2 l3 l4 l5 l6 : Value} {d : Nat} {t : List Value} {g : mm_M} {r : mm_R} {x : Int32} (hc : mm_c1 l5 = true) : mm_Rn pg_G d 1 67 [l0, l1, l2, l3, l4, l5, l6] (.int x :: t) g r ↔ mm_Rn pg_G d 1 69 [l0, l1, l2, l3, l4, l5, .int x] (t) g r := rn_istore tb_1_67 (mm_so_of (ls := [l0, l1, l2, l3, l4, l5, l6]) (v := l5) (Nat.le_of_ble_eq_true rfl) rfl hc) r
theorem tb_1_69 : mm_tb pg_G 1 69 = some (.iload 4, 0, 0, 0) := rfl
theorem st_1_69 {l0 l1 l2 l3 l5 l6 : Value} {d : Nat} {t : List Value} {g : mm_M} {r : mm_R} {x : Int32} : mm_Rn pg_G d 1 69 [l0, l1, l2, l3, .int x, l5, l6] (t) g r ↔ mm_Rn pg_G d 1 71 [l0, l1, l2, l3, .int x, l5, l6] (.int x :: t) g r := rn_iload tb_1_69 rfl r
theorem tb_1_71 : mm_tb pg_G 1 71 = some (.ifCond .ne 21, 92, 0, 0) := rfl
theorem st_1_71 {d : Nat} {ls t : List Value} {g : mm_M} {r : mm_R} {x : Int32} : mm_Rn pg_G d 1 71 ls (.int x :: t) g r ↔ if x = 0 then mm_Rn pg_G d 1 74 ls (t) g r else mm_Rn pg_G d 1 92 ls (t) g r := rn_if_ne tb_1_71 r
theorem tb_1_74 : mm_tb pg_G 1 74 = some (.iload_n 1, 0, 0, 0) := rfl
theorem st_1_74 {l0 l2 l3 l4 l5 l6 : Value} {d : Nat} {t : List Value} {g : mm_M} {r : mm_R} {x : Int32} : mm_Rn pg_G d 1 74 [l0, .int x, l2, l3, l4, l5, l6] (t) g r ↔ mm_Rn pg_G d 1 75 [l0, .int x, l2, l3, l4, l5, l6] (.int x :: t) g r := rn_iload_n tb_1_74 rfl r
theorem tb_1_75 : mm_tb pg_G 1 75 = some (.aload_n 0, 0, 0, 0) := rfl
theorem st_1_75 {l1 l2 l3 l4 l5 l6 : Value} {d : Nat} {t : List Value} {g : mm_M} {r : mm_R} {x : Nat} : mm_Rn pg_G d 1 75 [.ref x, l1, l2, l3, l4, l5, l6] (t) g r ↔ mm_Rn pg_G d 1 76 [.ref x, l1, l2, l3, l4, l5, l6] (.ref x :: t) g r := rn_aload_n tb_1_75 rfl r
theorem tb_1_76 : mm_tb pg_G 1 76 = some (.getfield 7, 4, 0, 195) := rfl
theorem st_1_76 {d : Nat} {ls t : List Value} {g : mm_M} {r : mm_R} {x : Nat} (hT : g.1 x = some (4, 3)) : mm_Rn pg_G d 1 76 ls (.ref x :: t) g r ↔ mm_Rn pg_G d 1 79 ls (g.2.1 x 0 :: t) g r := rn_getfield tb_1_76 hT r
theorem tb_1_79 : mm_tb pg_G 1 79 = some (.if_icmp .eq 17, 96, 0, 0) := rfl
theorem st_1_79 {d : Nat} {ls t : List Value} {g : mm_M} {r : mm_R} {x y : Int32} : mm_Rn pg_G d 1 79 ls (.int y :: .int x :: t) g r ↔ if x = y then mm_Rn pg_G d 1 96 ls (t) g r else mm_Rn pg_G d 1 82 ls (t) g r := rn_icmp_eq tb_1_79 r
theorem tb_1_82 : mm_tb pg_G 1 82 = some (.iload 5, 0, 0, 0) := rfl
theorem st_1_82 {l0 l1 l2 l3 l4 l6 : Value} {d : Nat} {t : List Value} {g : mm_M} {r : mm_R} {x : Int32} : mm_Rn pg_G d 1 82 [l0, l1, l2, l3, l4, .int x, l6] (t) g r ↔ mm_Rn pg_G d 1 84 [l0, l1, l2, l3, l4, .int x, l6] (.int x :: t) g r := rn_iload tb_1_82 rfl r
theorem tb_1_84 : mm_tb pg_G 1 84 = some (.ifCond .ne 8, 92, 0, 0) := rfl
theorem st_1_84 {d : Nat} {ls t : List Value} {g : mm_M} {r : mm_R} {x : Int32} : mm_Rn pg_G d 1 84 ls (.int x :: t) g r ↔ if x = 0 then mm_Rn pg_G d 1 87 ls (t) g r else mm_Rn pg_G d 1 92 ls (t) g r := rn_if_ne tb_1_84 r
theorem tb_1_87 : mm_tb pg_G 1 87 = some (.iload 6, 0, 0, 0) := rfl
theorem st_1_87 {l0 l1 l2 l3 l4 l5 : Value} {d : Nat} {t : List Value} {g : mm_M} {r : mm_R} {x : Int32} : mm_Rn pg_G d 1 87 [l0, l1, l2, l3, l4, l5, .int x] (t) g r ↔ mm_Rn pg_G d 1 89 [l0, l1, l2, l3, l4, l5, .int x] (.int x :: t) g r := rn_iload tb_1_87 rfl r
theorem tb_1_89 : mm_tb pg_G 1 89 = some (.ifCond .eq 7, 96, 0, 0) := rfl
theorem st_1_89 {d : Nat} {ls t : List Value} {g : mm_M} {r : mm_R} {x : Int32} : mm_Rn pg_G d 1 89 ls (.int x :: t) g r ↔ if x = 0 then mm_Rn pg_G d 1 96 ls (t) g r else mm_Rn pg_G d 1 92 ls (t) g r := rn_if_eq tb_1_89 r
theorem tb_1_92 : mm_tb pg_G 1 92 = some (.iconst 1, 0, 0, 0) := rfl
theorem st_1_92 {d : Nat} {ls t : List Value} {g : mm_M} {r : mm_R} : mm_Rn pg_G d 1 92 ls (t) g r ↔ mm_Rn pg_G d 1 93 ls (io_v 1 :: t) g r := rn_iconst tb_1_92 r
theorem tb_1_93 : mm_tb pg_G 1 93 = some (.goto 4, 97, 0, 0) := rfl
theorem st_1_93 {d : Nat} {ls t : List Value} {g : mm_M} {r : mm_R} : mm_Rn pg_G d 1 93 ls (t) g r ↔ mm_Rn pg_G d 1 97 ls (t) g r := rn_goto tb_1_93 r
theorem tb_1_96 : mm_tb pg_G 1 96 = some (.iconst 0, 0, 0, 0) := rfl
theorem st_1_96 {d : Nat} {ls t : List Value} {g : mm_M} {r : mm_R} : mm_Rn pg_G d 1 96 ls (t) g r ↔ mm_Rn pg_G d 1 97 ls (io_v 0 :: t) g r := rn_iconst tb_1_96 r
theorem tb_1_97 : mm_tb pg_G 1 97 = some (.ireturn, 0, 0, 0) := rfl
theorem st_1_97 {d : Nat} {ls : List Value} {g : mm_M} {r : mm_R} {x : Int32} (hb : x = 0 ∨ x = 1) : mm_Rn pg_G d 1 97 ls [.int x] g r ↔ r = (some (.int x), g) := rn_ireturn_iff tb_1_97 (Or.inr ⟨rfl, hb⟩) r
theorem tb_2_0 : mm_tb pg_G 2 0 = some (.aload_n 0, 0, 0, 0) := rfl
theorem st_2_0 {l1 : Value} {d : Nat} {t : List Value} {g : mm_M} {r : mm_R} {x : Nat} : mm_Rn pg_G d 2 0 [.ref x, l1] (t) g r ↔ mm_Rn pg_G d 2 1 [.ref x, l1] (.ref x :: t) g r := rn_aload_n tb_2_0 rfl r
theorem tb_2_1 : mm_tb pg_G 2 1 = some (.getfield 13, 4, 1, 197) := rfl
theorem st_2_1 {d : Nat} {ls t : List Value} {g : mm_M} {r : mm_R} {x : Nat} (hT : g.1 x = some (4, 3)) : mm_Rn pg_G d 2 1 ls (.ref x :: t) g r ↔ mm_Rn pg_G d 2 4 ls (g.2.1 x 1 :: t) g r := rn_getfield tb_2_1 hT r
theorem tb_2_4 : mm_tb pg_G 2 4 = some (.iload_n 1, 0, 0, 0) := rfl
theorem st_2_4 {l0 : Value} {d : Nat} {t : List Value} {g : mm_M} {r : mm_R} {x : Int32} : mm_Rn pg_G d 2 4 [l0, .int x] (t) g r ↔ mm_Rn pg_G d 2 5 [l0, .int x] (.int x :: t) g r := rn_iload_n tb_2_4 rfl r
theorem tb_2_5 : mm_tb pg_G 2 5 = some (.if_icmp .ge 15, 20, 0, 0) := rfl
theorem st_2_5 {d : Nat} {ls t : List Value} {g : mm_M} {r : mm_R} {x y : Int32} : mm_Rn pg_G d 2 5 ls (.int y :: .int x :: t) g r ↔ if y ≤ x then mm_Rn pg_G d 2 20 ls (t) g r else mm_Rn pg_G d 2 8 ls (t) g r := rn_icmp_ge tb_2_5 r
theorem tb_2_8 : mm_tb pg_G 2 8 = some (.iload_n 1, 0, 0, 0) := rfl
theorem st_2_8 {l0 : Value} {d : Nat} {t : List Value} {g : mm_M} {r : mm_R} {x : Int32} : mm_Rn pg_G d 2 8 [l0, .int x] (t) g r ↔ mm_Rn pg_G d 2 9 [l0, .int x] (.int x :: t) g r := rn_iload_n tb_2_8 rfl r
theorem tb_2_9 : mm_tb pg_G 2 9 = some (.aload_n 0, 0, 0, 0) := rfl
theorem st_2_9 {l1 : Value} {d : Nat} {t : List Value} {g : mm_M} {r : mm_R} {x : Nat} : mm_Rn pg_G d 2 9 [.ref x, l1] (t) g r ↔ mm_Rn pg_G d 2 10 [.ref x, l1] (.ref x :: t) g r := rn_aload_n tb_2_9 rfl r
theorem tb_2_10 : mm_tb pg_G 2 10 = some (.getfield 16, 4, 2, 199) := rfl
theorem st_2_10 {d : Nat} {ls t : List Value} {g : mm_M} {r : mm_R} {x : Nat} (hT : g.1 x = some (4, 3)) : mm_Rn pg_G d 2 10 ls (.ref x :: t) g r ↔ mm_Rn pg_G d 2 13 ls (g.2.1 x 2 :: t) g r := rn_getfield tb_2_10 hT r
theorem tb_2_13 : mm_tb pg_G 2 13 = some (.if_icmp .ge 7, 20, 0, 0) := rfl
theorem st_2_13 {d : Nat} {ls t : List Value} {g : mm_M} {r : mm_R} {x y : Int32} : mm_Rn pg_G d 2 13 ls (.int y :: .int x :: t) g r ↔ if y ≤ x then mm_Rn pg_G d 2 20 ls (t) g r else mm_Rn pg_G d 2 16 ls (t) g r := rn_icmp_ge tb_2_13 r
theorem tb_2_16 : mm_tb pg_G 2 16 = some (.iconst 1, 0, 0, 0) := rfl
theorem st_2_16 {d : Nat} {ls t : List Value} {g : mm_M} {r : mm_R} : mm_Rn pg_G d 2 16 ls (t) g r ↔ mm_Rn pg_G d 2 17 ls (io_v 1 :: t) g r := rn_iconst tb_2_16 r
theorem tb_2_17 : mm_tb pg_G 2 17 = some (.goto 4, 21, 0, 0) := rfl
theorem st_2_17 {d : Nat} {ls t : List Value} {g : mm_M} {r : mm_R} : mm_Rn pg_G d 2 17 ls (t) g r ↔ mm_Rn pg_G d 2 21 ls (t) g r := rn_goto tb_2_17 r
theorem tb_2_20 : mm_tb pg_G 2 20 = some (.iconst 0, 0, 0, 0) := rfl
theorem st_2_20 {d : Nat} {ls t : List Value} {g : mm_M} {r : mm_R} : mm_Rn pg_G d 2 20 ls (t) g r ↔ mm_Rn pg_G d 2 21 ls (io_v 0 :: t) g r := rn_iconst tb_2_20 r
theorem tb_2_21 : mm_tb pg_G 2 21 = some (.ireturn, 0, 0, 0) := rfl
theorem st_2_21 {d : Nat} {ls : List Value} {g : mm_M} {r : mm_R} {x : Int32} (hb : x = 0 ∨ x = 1) : mm_Rn pg_G d 2 21 ls [.int x] g r ↔ r = (some (.int x), g) := rn_ireturn_iff tb_2_21 (Or.inr ⟨rfl, hb⟩) r
theorem tb_3_0 : mm_tb pg_G 3 0 = some (.aload_n 0, 0, 0, 0) := rfl
theorem st_3_0 {d : Nat} {t : List Value} {g : mm_M} {r : mm_R} {x : Nat} : mm_Rn pg_G d 3 0 [.ref x] (t) g r ↔ mm_Rn pg_G d 3 1 [.ref x] (.ref x :: t) g r := rn_aload_n tb_3_0 rfl r
theorem tb_3_1 : mm_tb pg_G 3 1 = some (.invokespecial 3, 998, 0, 123) := rfl
theorem st_3_1 {d : Nat} {ls t : List Value} {g : mm_M} {r : mm_R} {x : Nat} (hl : t.length ≤ 4) : mm_Rn pg_G (d + 1) 3 1 ls (.ref x :: t) g r ↔ mm_Rn pg_G (d + 1) 3 4 ls (t) g r := rn_oinit tb_3_1 hl r
theorem tb_3_4 : mm_tb pg_G 3 4 = some (.aload_n 0, 0, 0, 0) := rfl
theorem st_3_4 {d : Nat} {t : List Value} {g : mm_M} {r : mm_R} {x : Nat} : mm_Rn pg_G d 3 4 [.ref x] (t) g r ↔ mm_Rn pg_G d 3 5 [.ref x] (.ref x :: t) g r := rn_aload_n tb_3_4 rfl r
theorem tb_3_5 : mm_tb pg_G 3 5 = some (.bipush 6, 0, 0, 0) := rfl
theorem st_3_5 {d : Nat} {ls t : List Value} {g : mm_M} {r : mm_R} : mm_Rn pg_G d 3 5 ls (t) g r ↔ mm_Rn pg_G d 3 7 ls (io_v 6 :: t) g r := rn_bipush tb_3_5 r
theorem tb_3_7 : mm_tb pg_G 3 7 = some (.newarray .int, 0, 0, 0) := rfl
theorem st_3_7 {d : Nat} {ls t : List Value} {g : mm_M} {r : mm_R} {x : Nat} {n : Int32} (hx : mm_pk pg_G 3 7 ls g.2.1 = x) (hT : g.1 x = none) (h0 : 0 ≤ n) (h1 : n.toNatClampNeg ≤ 1000) : mm_Rn pg_G d 3 7 ls (.int n :: t) g r ↔ mm_Rn pg_G d 3 9 ls (.ref x :: t) (mm_al g x 100 n.toNatClampNeg fun _ => .int 0) r := rn_newarray tb_3_7 hx hT h0 h1 r
theorem tb_3_9 : mm_tb pg_G 3 9 = some (.putfield 9, 5, 0, 124) := rfl
theorem st_3_9 {d : Nat} {ls t : List Value} {g : mm_M} {r : mm_R} {x : Nat} {v : Nat} (hT : g.1 x = some (5, 7)) : mm_Rn pg_G d 3 9 ls (.ref v :: .ref x :: t) g r ↔ mm_Rn pg_G d 3 12 ls (t) (mm_wr g x 0 (.ref v)) r := rn_putfield tb_3_9 hT rfl r
theorem tb_3_12 : mm_tb pg_G 3 12 = some (.aload_n 0, 0, 0, 0) := rfl
theorem st_3_12 {d : Nat} {t : List Value} {g : mm_M} {r : mm_R} {x : Nat} : mm_Rn pg_G d 3 12 [.ref x] (t) g r ↔ mm_Rn pg_G d 3 13 [.ref x] (.ref x :: t) g r := rn_aload_n tb_3_12 rfl r
theorem tb_3_13 : mm_tb pg_G 3 13 = some (.iconst 0, 0, 0, 0) := rfl
theorem st_3_13 {d : Nat} {ls t : List Value} {g : mm_M} {r : mm_R} : mm_Rn pg_G d 3 13 ls (t) g r ↔ mm_Rn pg_G d 3 14 ls (io_v 0 :: t) g r := rn_iconst tb_3_13 r
theorem tb_3_14 : mm_tb pg_G 3 14 = some (.putfield 15, 5, 1, 125) := rfl
theorem st_3_14 {d : Nat} {ls t : List Value} {g : mm_M} {r : mm_R} {x : Nat} {v : Int32} (hT : g.1 x = some (5, 7)) : mm_Rn pg_G d 3 14 ls (.int v :: .ref x :: t) g r ↔ mm_Rn pg_G d 3 17 ls (t) (mm_wr g x 1 (.int v)) r := rn_putfield tb_3_14 hT rfl r
theorem tb_3_17 : mm_tb pg_G 3 17 = some (.aload_n 0, 0, 0, 0) := rfl
theorem st_3_17 {d : Nat} {t : List Value} {g : mm_M} {r : mm_R} {x : Nat} : mm_Rn pg_G d 3 17 [.ref x] (t) g r ↔ mm_Rn pg_G d 3 18 [.ref x] (.ref x :: t) g r := rn_aload_n tb_3_17 rfl r
theorem tb_3_18 : mm_tb pg_G 3 18 = some (.iconst 0, 0, 0, 0) := rfl
theorem st_3_18 {d : Nat} {ls t : List Value} {g : mm_M} {r : mm_R} : mm_Rn pg_G d 3 18 ls (t) g r ↔ mm_Rn pg_G d 3 19 ls (io_v 0 :: t) g r := rn_iconst tb_3_18 r
theorem tb_3_19 : mm_tb pg_G 3 19 = some (.putfield 19, 5, 2, 126) := rfl
theorem st_3_19 {d : Nat} {ls t : List Value} {g : mm_M} {r : mm_R} {x : Nat} {v : Int32} (hT : g.1 x = some (5, 7)) : mm_Rn pg_G d 3 19 ls (.int v :: .ref x :: t) g r ↔ mm_Rn pg_G d 3 22 ls (t) (mm_wr g x 2 (.int v)) r := rn_putfield tb_3_19 hT rfl r
theorem tb_3_22 : mm_tb pg_G 3 22 = some (.aload_n 0, 0, 0, 0) := rfl
theorem st_3_22 {d : Nat} {t : List Value} {g : mm_M} {r : mm_R} {x : Nat} : mm_Rn pg_G d 3 22 [.ref x] (t) g r ↔ mm_Rn pg_G d 3 23 [.ref x] (.ref x :: t) g r := rn_aload_n tb_3_22 rfl r
theorem tb_3_23 : mm_tb pg_G 3 23 = some (.iconst 0, 0, 0, 0) := rfl
theorem st_3_23 {d : Nat} {ls t : List Value} {g : mm_M} {r : mm_R} : mm_Rn pg_G d 3 23 ls (t) g r ↔ mm_Rn pg_G d 3 24 ls (io_v 0 :: t) g r := rn_iconst tb_3_23 r
theorem tb_3_24 : mm_tb pg_G 3 24 = some (.putfield 22, 5, 3, 128) := rfl
theorem st_3_24 {d : Nat} {ls t : List Value} {g : mm_M} {r : mm_R} {x : Nat} {v : Int32} (hT : g.1 x = some (5, 7)) : mm_Rn pg_G d 3 24 ls (.int v :: .ref x :: t) g r ↔ mm_Rn pg_G d 3 27 ls (t) (mm_wr g x 3 (.int v)) r := rn_putfield tb_3_24 hT rfl r
theorem tb_3_27 : mm_tb pg_G 3 27 = some (.aload_n 0, 0, 0, 0) := rfl
theorem st_3_27 {d : Nat} {t : List Value} {g : mm_M} {r : mm_R} {x : Nat} : mm_Rn pg_G d 3 27 [.ref x] (t) g r ↔ mm_Rn pg_G d 3 28 [.ref x] (.ref x :: t) g r := rn_aload_n tb_3_27 rfl r
theorem tb_3_28 : mm_tb pg_G 3 28 = some (.iconst 0, 0, 0, 0) := rfl
theorem st_3_28 {d : Nat} {ls t : List Value} {g : mm_M} {r : mm_R} : mm_Rn pg_G d 3 28 ls (t) g r ↔ mm_Rn pg_G d 3 29 ls (io_v 0 :: t) g r := rn_iconst tb_3_28 r
theorem tb_3_29 : mm_tb pg_G 3 29 = some (.putfield 25, 5, 4, 130) := rfl
theorem st_3_29 {d : Nat} {ls t : List Value} {g : mm_M} {r : mm_R} {x : Nat} {v : Int32} (hT : g.1 x = some (5, 7)) : mm_Rn pg_G d 3 29 ls (.int v :: .ref x :: t) g r ↔ mm_Rn pg_G d 3 32 ls (t) (mm_wr g x 4 (.int v)) r := rn_putfield tb_3_29 hT rfl r
theorem tb_3_32 : mm_tb pg_G 3 32 = some (.aload_n 0, 0, 0, 0) := rfl
theorem st_3_32 {d : Nat} {t : List Value} {g : mm_M} {r : mm_R} {x : Nat} : mm_Rn pg_G d 3 32 [.ref x] (t) g r ↔ mm_Rn pg_G d 3 33 [.ref x] (.ref x :: t) g r := rn_aload_n tb_3_32 rfl r
theorem tb_3_33 : mm_tb pg_G 3 33 = some (.iconst 0, 0, 0, 0) := rfl
theorem st_3_33 {d : Nat} {ls t : List Value} {g : mm_M} {r : mm_R} : mm_Rn pg_G d 3 33 ls (t) g r ↔ mm_Rn pg_G d 3 34 ls (io_v 0 :: t) g r := rn_iconst tb_3_33 r
theorem tb_3_34 : mm_tb pg_G 3 34 = some (.putfield 28, 5, 5, 132) := rfl
theorem st_3_34 {d : Nat} {ls t : List Value} {g : mm_M} {r : mm_R} {x : Nat} {v : Int32} (hT : g.1 x = some (5, 7)) : mm_Rn pg_G d 3 34 ls (.int v :: .ref x :: t) g r ↔ mm_Rn pg_G d 3 37 ls (t) (mm_wr g x 5 (.int v)) r := rn_putfield tb_3_34 hT rfl r
theorem tb_3_37 : mm_tb pg_G 3 37 = some (.aload_n 0, 0, 0, 0) := rfl
theorem st_3_37 {d : Nat} {t : List Value} {g : mm_M} {r : mm_R} {x : Nat} : mm_Rn pg_G d 3 37 [.ref x] (t) g r ↔ mm_Rn pg_G d 3 38 [.ref x] (.ref x :: t) g r := rn_aload_n tb_3_37 rfl r
theorem tb_3_38 : mm_tb pg_G 3 38 = some (.iconst 0, 0, 0, 0) := rfl
theorem st_3_38 {d : Nat} {ls t : List Value} {g : mm_M} {r : mm_R} : mm_Rn pg_G d 3 38 ls (t) g r ↔ mm_Rn pg_G d 3 39 ls (io_v 0 :: t) g r := rn_iconst tb_3_38 r
theorem tb_3_39 : mm_tb pg_G 3 39 = some (.putfield 31, 5, 6, 133) := rfl
theorem st_3_39 {d : Nat} {ls t : List Value} {g : mm_M} {r : mm_R} {x : Nat} {v : Int32} (hT : g.1 x = some (5, 7)) : mm_Rn pg_G d 3 39 ls (.int v :: .ref x :: t) g r ↔ mm_Rn pg_G d 3 42 ls (t) (mm_wr g x 6 (.int v)) r := rn_putfield tb_3_39 hT rfl r
theorem tb_3_42 : mm_tb pg_G 3 42 = some (.return_, 0, 0, 0) := rfl
theorem st_3_42 {d : Nat} {ls : List Value} {g : mm_M} {r : mm_R} : mm_Rn pg_G d 3 42 ls [] g r ↔ r = (none, g) := rn_return_iff tb_3_42 rfl r
theorem tb_4_0 : mm_tb pg_G 4 0 = some (.aload_n 0, 0, 0, 0) := rfl
theorem st_4_0 {d : Nat} {t : List Value} {g : mm_M} {r : mm_R} {x : Nat} : mm_Rn pg_G d 4 0 [.ref x] (t) g r ↔ mm_Rn pg_G d 4 1 [.ref x] (.ref x :: t) g r := rn_aload_n tb_4_0 rfl r
theorem tb_4_1 : mm_tb pg_G 4 1 = some (.getfield 15, 5, 1, 125) := rfl
theorem st_4_1 {d : Nat} {ls t : List Value} {g : mm_M} {r : mm_R} {x : Nat} (hT : g.1 x = some (5, 7)) : mm_Rn pg_G d 4 1 ls (.ref x :: t) g r ↔ mm_Rn pg_G d 4 4 ls (g.2.1 x 1 :: t) g r := rn_getfield tb_4_1 hT r
theorem tb_4_4 : mm_tb pg_G 4 4 = some (.ifCond .le 7, 11, 0, 0) := rfl
theorem st_4_4 {d : Nat} {ls t : List Value} {g : mm_M} {r : mm_R} {x : Int32} : mm_Rn pg_G d 4 4 ls (.int x :: t) g r ↔ if x ≤ 0 then mm_Rn pg_G d 4 11 ls (t) g r else mm_Rn pg_G d 4 7 ls (t) g r := rn_if_le tb_4_4 r
theorem tb_4_7 : mm_tb pg_G 4 7 = some (.iconst 1, 0, 0, 0) := rfl
theorem st_4_7 {d : Nat} {ls t : List Value} {g : mm_M} {r : mm_R} : mm_Rn pg_G d 4 7 ls (t) g r ↔ mm_Rn pg_G d 4 8 ls (io_v 1 :: t) g r := rn_iconst tb_4_7 r
theorem tb_4_8 : mm_tb pg_G 4 8 = some (.goto 4, 12, 0, 0) := rfl
theorem st_4_8 {d : Nat} {ls t : List Value} {g : mm_M} {r : mm_R} : mm_Rn pg_G d 4 8 ls (t) g r ↔ mm_Rn pg_G d 4 12 ls (t) g r := rn_goto tb_4_8 r
theorem tb_4_11 : mm_tb pg_G 4 11 = some (.iconst 0, 0, 0, 0) := rfl
theorem st_4_11 {d : Nat} {ls t : List Value} {g : mm_M} {r : mm_R} : mm_Rn pg_G d 4 11 ls (t) g r ↔ mm_Rn pg_G d 4 12 ls (io_v 0 :: t) g r := rn_iconst tb_4_11 r
theorem tb_4_12 : mm_tb pg_G 4 12 = some (.ireturn, 0, 0, 0) := rfl
theorem st_4_12 {d : Nat} {ls : List Value} {g : mm_M} {r : mm_R} {x : Int32} (hb : x = 0 ∨ x = 1) : mm_Rn pg_G d 4 12 ls [.int x] g r ↔ r = (some (.int x), g) := rn_ireturn_iff tb_4_12 (Or.inr ⟨rfl, hb⟩) r
theorem tb_5_0 : mm_tb pg_G 5 0 = some (.aload_n 0, 0, 0, 0) := rfl
theorem st_5_0 {d : Nat} {t : List Value} {g : mm_M} {r : mm_R} {x : Nat} : mm_Rn pg_G d 5 0 [.ref x] (t) g r ↔ mm_Rn pg_G d 5 1 [.ref x] (.ref x :: t) g r := rn_aload_n tb_5_0 rfl r
theorem tb_5_1 : mm_tb pg_G 5 1 = some (.getfield 19, 5, 2, 126) := rfl
theorem st_5_1 {d : Nat} {ls t : List Value} {g : mm_M} {r : mm_R} {x : Nat} (hT : g.1 x = some (5, 7)) : mm_Rn pg_G d 5 1 ls (.ref x :: t) g r ↔ mm_Rn pg_G d 5 4 ls (g.2.1 x 2 :: t) g r := rn_getfield tb_5_1 hT r
theorem tb_5_4 : mm_tb pg_G 5 4 = some (.aload_n 0, 0, 0, 0) := rfl
theorem st_5_4 {d : Nat} {t : List Value} {g : mm_M} {r : mm_R} {x : Nat} : mm_Rn pg_G d 5 4 [.ref x] (t) g r ↔ mm_Rn pg_G d 5 5 [.ref x] (.ref x :: t) g r := rn_aload_n tb_5_4 rfl r
theorem tb_5_5 : mm_tb pg_G 5 5 = some (.getfield 15, 5, 1, 125) := rfl
theorem st_5_5 {d : Nat} {ls t : List Value} {g : mm_M} {r : mm_R} {x : Nat} (hT : g.1 x = some (5, 7)) : mm_Rn pg_G d 5 5 ls (.ref x :: t) g r ↔ mm_Rn pg_G d 5 8 ls (g.2.1 x 1 :: t) g r := rn_getfield tb_5_5 hT r
theorem tb_5_8 : mm_tb pg_G 5 8 = some (.if_icmp .ge 7, 15, 0, 0) := rfl
theorem st_5_8 {d : Nat} {ls t : List Value} {g : mm_M} {r : mm_R} {x y : Int32} : mm_Rn pg_G d 5 8 ls (.int y :: .int x :: t) g r ↔ if y ≤ x then mm_Rn pg_G d 5 15 ls (t) g r else mm_Rn pg_G d 5 11 ls (t) g r := rn_icmp_ge tb_5_8 r
theorem tb_5_11 : mm_tb pg_G 5 11 = some (.iconst 1, 0, 0, 0) := rfl
theorem st_5_11 {d : Nat} {ls t : List Value} {g : mm_M} {r : mm_R} : mm_Rn pg_G d 5 11 ls (t) g r ↔ mm_Rn pg_G d 5 12 ls (io_v 1 :: t) g r := rn_iconst tb_5_11 r
theorem tb_5_12 : mm_tb pg_G 5 12 = some (.goto 4, 16, 0, 0) := rfl
theorem st_5_12 {d : Nat} {ls t : List Value} {g : mm_M} {r : mm_R} : mm_Rn pg_G d 5 12 ls (t) g r ↔ mm_Rn pg_G d 5 16 ls (t) g r := rn_goto tb_5_12 r
theorem tb_5_15 : mm_tb pg_G 5 15 = some (.iconst 0, 0, 0, 0) := rfl
theorem st_5_15 {d : Nat} {ls t : List Value} {g : mm_M} {r : mm_R} : mm_Rn pg_G d 5 15 ls (t) g r ↔ mm_Rn pg_G d 5 16 ls (io_v 0 :: t) g r := rn_iconst tb_5_15 r
theorem tb_5_16 : mm_tb pg_G 5 16 = some (.ireturn, 0, 0, 0) := rfl
theorem st_5_16 {d : Nat} {ls : List Value} {g : mm_M} {r : mm_R} {x : Int32} (hb : x = 0 ∨ x = 1) : mm_Rn pg_G d 5 16 ls [.int x] g r ↔ r = (some (.int x), g) := rn_ireturn_iff tb_5_16 (Or.inr ⟨rfl, hb⟩) r
theorem tb_6_0 : mm_tb pg_G 6 0 = some (.aload_n 0, 0, 0, 0) := rfl
theorem st_6_0 {d : Nat} {t : List Value} {g : mm_M} {r : mm_R} {x : Nat} : mm_Rn pg_G d 6 0 [.ref x] (t) g r ↔ mm_Rn pg_G d 6 1 [.ref x] (.ref x :: t) g r := rn_aload_n tb_6_0 rfl r
theorem tb_6_1 : mm_tb pg_G 6 1 = some (.getfield 19, 5, 2, 126) := rfl
theorem st_6_1 {d : Nat} {ls t : List Value} {g : mm_M} {r : mm_R} {x : Nat} (hT : g.1 x = some (5, 7)) : mm_Rn pg_G d 6 1 ls (.ref x :: t) g r ↔ mm_Rn pg_G d 6 4 ls (g.2.1 x 2 :: t) g r := rn_getfield tb_6_1 hT r
theorem tb_6_4 : mm_tb pg_G 6 4 = some (.ifCond .le 7, 11, 0, 0) := rfl
theorem st_6_4 {d : Nat} {ls t : List Value} {g : mm_M} {r : mm_R} {x : Int32} : mm_Rn pg_G d 6 4 ls (.int x :: t) g r ↔ if x ≤ 0 then mm_Rn pg_G d 6 11 ls (t) g r else mm_Rn pg_G d 6 7 ls (t) g r := rn_if_le tb_6_4 r
theorem tb_6_7 : mm_tb pg_G 6 7 = some (.iconst 1, 0, 0, 0) := rfl
theorem st_6_7 {d : Nat} {ls t : List Value} {g : mm_M} {r : mm_R} : mm_Rn pg_G d 6 7 ls (t) g r ↔ mm_Rn pg_G d 6 8 ls (io_v 1 :: t) g r := rn_iconst tb_6_7 r
theorem tb_6_8 : mm_tb pg_G 6 8 = some (.goto 4, 12, 0, 0) := rfl
theorem st_6_8 {d : Nat} {ls t : List Value} {g : mm_M} {r : mm_R} : mm_Rn pg_G d 6 8 ls (t) g r ↔ mm_Rn pg_G d 6 12 ls (t) g r := rn_goto tb_6_8 r
theorem tb_6_11 : mm_tb pg_G 6 11 = some (.iconst 0, 0, 0, 0) := rfl
theorem st_6_11 {d : Nat} {ls t : List Value} {g : mm_M} {r : mm_R} : mm_Rn pg_G d 6 11 ls (t) g r ↔ mm_Rn pg_G d 6 12 ls (io_v 0 :: t) g r := rn_iconst tb_6_11 r
theorem tb_6_12 : mm_tb pg_G 6 12 = some (.ireturn, 0, 0, 0) := rfl
theorem st_6_12 {d : Nat} {ls : List Value} {g : mm_M} {r : mm_R} {x : Int32} (hb : x = 0 ∨ x = 1) : mm_Rn pg_G d 6 12 ls [.int x] g r ↔ r = (some (.int x), g) := rn_ireturn_iff tb_6_12 (Or.inr ⟨rfl, hb⟩) r
theorem tb_7_0 : mm_tb pg_G 7 0 = some (.aload_n 0, 0, 0, 0) := rfl
theorem st_7_0 {l1 l2 l3 l4 : Value} {d : Nat} {t : List Value} {g : mm_M} {r : mm_R} {x : Nat} : mm_Rn pg_G d 7 0 [.ref x, l1, l2, l3, l4] (t) g r ↔ mm_Rn pg_G d 7 1 [.ref x, l1, l2, l3, l4] (.ref x :: t) g r := rn_aload_n tb_7_0 rfl r
theorem tb_7_1 : mm_tb pg_G 7 1 = some (.iload_n 1, 0, 0, 0) := rfl
theorem st_7_1 {l0 l2 l3 l4 : Value} {d : Nat} {t : List Value} {g : mm_M} {r : mm_R} {x : Int32} : mm_Rn pg_G d 7 1 [l0, .int x, l2, l3, l4] (t) g r ↔ mm_Rn pg_G d 7 2 [l0, .int x, l2, l3, l4] (.int x :: t) g r := rn_iload_n tb_7_1 rfl r
theorem tb_7_2 : mm_tb pg_G 7 2 = some (.putfield 15, 5, 1, 125) := rfl
theorem st_7_2 {d : Nat} {ls t : List Value} {g : mm_M} {r : mm_R} {x : Nat} {v : Int32} (hT : g.1 x = some (5, 7)) : mm_Rn pg_G d 7 2 ls (.int v :: .ref x :: t) g r ↔ mm_Rn pg_G d 7 5 ls (t) (mm_wr g x 1 (.int v)) r := rn_putfield tb_7_2 hT rfl r
theorem tb_7_5 : mm_tb pg_G 7 5 = some (.aload_n 0, 0, 0, 0) := rfl
theorem st_7_5 {l1 l2 l3 l4 : Value} {d : Nat} {t : List Value} {g : mm_M} {r : mm_R} {x : Nat} : mm_Rn pg_G d 7 5 [.ref x, l1, l2, l3, l4] (t) g r ↔ mm_Rn pg_G d 7 6 [.ref x, l1, l2, l3, l4] (.ref x :: t) g r := rn_aload_n tb_7_5 rfl r
theorem tb_7_6 : mm_tb pg_G 7 6 = some (.iconst 0, 0, 0, 0) := rfl
theorem st_7_6 {d : Nat} {ls t : List Value} {g : mm_M} {r : mm_R} : mm_Rn pg_G d 7 6 ls (t) g r ↔ mm_Rn pg_G d 7 7 ls (io_v 0 :: t) g r := rn_iconst tb_7_6 r
theorem tb_7_7 : mm_tb pg_G 7 7 = some (.putfield 19, 5, 2, 126) := rfl
theorem st_7_7 {d : Nat} {ls t : List Value} {g : mm_M} {r : mm_R} {x : Nat} {v : Int32} (hT : g.1 x = some (5, 7)) : mm_Rn pg_G d 7 7 ls (.int v :: .ref x :: t) g r ↔ mm_Rn pg_G d 7 10 ls (t) (mm_wr g x 2 (.int v)) r := rn_putfield tb_7_7 hT rfl r
theorem tb_7_10 : mm_tb pg_G 7 10 = some (.aload_n 0, 0, 0, 0) := rfl
theorem st_7_10 {l1 l2 l3 l4 : Value} {d : Nat} {t : List Value} {g : mm_M} {r : mm_R} {x : Nat} : mm_Rn pg_G d 7 10 [.ref x, l1, l2, l3, l4] (t) g r ↔ mm_Rn pg_G d 7 11 [.ref x, l1, l2, l3, l4] (.ref x :: t) g r := rn_aload_n tb_7_10 rfl r
theorem tb_7_11 : mm_tb pg_G 7 11 = some (.iload_n 2, 0, 0, 0) := rfl
theorem st_7_11 {l0 l1 l3 l4 : Value} {d : Nat} {t : List Value} {g : mm_M} {r : mm_R} {x : Int32} : mm_Rn pg_G d 7 11 [l0, l1, .int x, l3, l4] (t) g r ↔ mm_Rn pg_G d 7 12 [l0, l1, .int x, l3, l4] (.int x :: t) g r := rn_iload_n tb_7_11 rfl r
theorem tb_7_12 : mm_tb pg_G 7 12 = some (.putfield 22, 5, 3, 128) := rfl
theorem st_7_12 {d : Nat} {ls t : List Value} {g : mm_M} {r : mm_R} {x : Nat} {v : Int32} (hT : g.1 x = some (5, 7)) : mm_Rn pg_G d 7 12 ls (.int v :: .ref x :: t) g r ↔ mm_Rn pg_G d 7 15 ls (t) (mm_wr g x 3 (.int v)) r := rn_putfield tb_7_12 hT rfl r
theorem tb_7_15 : mm_tb pg_G 7 15 = some (.aload_n 0, 0, 0, 0) := rfl
theorem st_7_15 {l1 l2 l3 l4 : Value} {d : Nat} {t : List Value} {g : mm_M} {r : mm_R} {x : Nat} : mm_Rn pg_G d 7 15 [.ref x, l1, l2, l3, l4] (t) g r ↔ mm_Rn pg_G d 7 16 [.ref x, l1, l2, l3, l4] (.ref x :: t) g r := rn_aload_n tb_7_15 rfl r
theorem tb_7_16 : mm_tb pg_G 7 16 = some (.iload_n 2, 0, 0, 0) := rfl
theorem st_7_16 {l0 l1 l3 l4 : Value} {d : Nat} {t : List Value} {g : mm_M} {r : mm_R} {x : Int32} : mm_Rn pg_G d 7 16 [l0, l1, .int x, l3, l4] (t) g r ↔ mm_Rn pg_G d 7 17 [l0, l1, .int x, l3, l4] (.int x :: t) g r := rn_iload_n tb_7_16 rfl r
theorem tb_7_17 : mm_tb pg_G 7 17 = some (.iload_n 3, 0, 0, 0) := rfl
theorem st_7_17 {l0 l1 l2 l4 : Value} {d : Nat} {t : List Value} {g : mm_M} {r : mm_R} {x : Int32} : mm_Rn pg_G d 7 17 [l0, l1, l2, .int x, l4] (t) g r ↔ mm_Rn pg_G d 7 18 [l0, l1, l2, .int x, l4] (.int x :: t) g r := rn_iload_n tb_7_17 rfl r
theorem tb_7_18 : mm_tb pg_G 7 18 = some (.iadd, 0, 0, 0) := rfl
theorem st_7_18 {d : Nat} {ls t : List Value} {g : mm_M} {r : mm_R} {x y : Int32} : mm_Rn pg_G d 7 18 ls (.int y :: .int x :: t) g r ↔ mm_Rn pg_G d 7 19 ls (.int (x + y) :: t) g r := rn_iadd tb_7_18 r
theorem tb_7_19 : mm_tb pg_G 7 19 = some (.putfield 25, 5, 4, 130) := rfl
theorem st_7_19 {d : Nat} {ls t : List Value} {g : mm_M} {r : mm_R} {x : Nat} {v : Int32} (hT : g.1 x = some (5, 7)) : mm_Rn pg_G d 7 19 ls (.int v :: .ref x :: t) g r ↔ mm_Rn pg_G d 7 22 ls (t) (mm_wr g x 4 (.int v)) r := rn_putfield tb_7_19 hT rfl r
theorem tb_7_22 : mm_tb pg_G 7 22 = some (.aload_n 0, 0, 0, 0) := rfl
theorem st_7_22 {l1 l2 l3 l4 : Value} {d : Nat} {t : List Value} {g : mm_M} {r : mm_R} {x : Nat} : mm_Rn pg_G d 7 22 [.ref x, l1, l2, l3, l4] (t) g r ↔ mm_Rn pg_G d 7 23 [.ref x, l1, l2, l3, l4] (.ref x :: t) g r := rn_aload_n tb_7_22 rfl r
theorem tb_7_23 : mm_tb pg_G 7 23 = some (.iconst 0, 0, 0, 0) := rfl
theorem st_7_23 {d : Nat} {ls t : List Value} {g : mm_M} {r : mm_R} : mm_Rn pg_G d 7 23 ls (t) g r ↔ mm_Rn pg_G d 7 24 ls (io_v 0 :: t) g r := rn_iconst tb_7_23 r
theorem tb_7_24 : mm_tb pg_G 7 24 = some (.putfield 28, 5, 5, 132) := rfl
theorem st_7_24 {d : Nat} {ls t : List Value} {g : mm_M} {r : mm_R} {x : Nat} {v : Int32} (hT : g.1 x = some (5, 7)) : mm_Rn pg_G d 7 24 ls (.int v :: .ref x :: t) g r ↔ mm_Rn pg_G d 7 27 ls (t) (mm_wr g x 5 (.int v)) r := rn_putfield tb_7_24 hT rfl r
theorem tb_7_27 : mm_tb pg_G 7 27 = some (.aload_n 0, 0, 0, 0) := rfl
theorem st_7_27 {l1 l2 l3 l4 : Value} {d : Nat} {t : List Value} {g : mm_M} {r : mm_R} {x : Nat} : mm_Rn pg_G d 7 27 [.ref x, l1, l2, l3, l4] (t) g r ↔ mm_Rn pg_G d 7 28 [.ref x, l1, l2, l3, l4] (.ref x :: t) g r := rn_aload_n tb_7_27 rfl r
theorem tb_7_28 : mm_tb pg_G 7 28 = some (.iconst 0, 0, 0, 0) := rfl
theorem st_7_28 {d : Nat} {ls t : List Value} {g : mm_M} {r : mm_R} : mm_Rn pg_G d 7 28 ls (t) g r ↔ mm_Rn pg_G d 7 29 ls (io_v 0 :: t) g r := rn_iconst tb_7_28 r
theorem tb_7_29 : mm_tb pg_G 7 29 = some (.putfield 31, 5, 6, 133) := rfl
theorem st_7_29 {d : Nat} {ls t : List Value} {g : mm_M} {r : mm_R} {x : Nat} {v : Int32} (hT : g.1 x = some (5, 7)) : mm_Rn pg_G d 7 29 ls (.int v :: .ref x :: t) g r ↔ mm_Rn pg_G d 7 32 ls (t) (mm_wr g x 6 (.int v)) r := rn_putfield tb_7_29 hT rfl r
theorem tb_7_32 : mm_tb pg_G 7 32 = some (.iconst 0, 0, 0, 0) := rfl
theorem st_7_32 {d : Nat} {ls t : List Value} {g : mm_M} {r : mm_R} : mm_Rn pg_G d 7 32 ls (t) g r ↔ mm_Rn pg_G d 7 33 ls (io_v 0 :: t) g r := rn_iconst tb_7_32 r
theorem tb_7_33 : mm_tb pg_G 7 33 = some (.istore 4, 0, 0, 0) := rfl
theorem st_7_33 {l0 l1 l2 l3 l4 : Value} {d : Nat} {t : List Value} {g : mm_M} {r : mm_R} {x : Int32} (hc : mm_c1 l3 = true) : mm_Rn pg_G d 7 33 [l0, l1, l2, l3, l4] (.int x :: t) g r ↔ mm_Rn pg_G d 7 35 [l0, l1, l2, l3, .int x] (t) g r := rn_istore tb_7_33 (mm_so_of (ls := [l0, l1, l2, l3, l4]) (v := l3) (Nat.le_of_ble_eq_true rfl) rfl hc) r
theorem tb_7_35 : mm_tb pg_G 7 35 = some (.iload 4, 0, 0, 0) := rfl
theorem st_7_35 {l0 l1 l2 l3 : Value} {d : Nat} {t : List Value} {g : mm_M} {r : mm_R} {x : Int32} : mm_Rn pg_G d 7 35 [l0, l1, l2, l3, .int x] (t) g r ↔ mm_Rn pg_G d 7 37 [l0, l1, l2, l3, .int x] (.int x :: t) g r := rn_iload tb_7_35 rfl r
theorem tb_7_37 : mm_tb pg_G 7 37 = some (.bipush 6, 0, 0, 0) := rfl
theorem st_7_37 {d : Nat} {ls t : List Value} {g : mm_M} {r : mm_R} : mm_Rn pg_G d 7 37 ls (t) g r ↔ mm_Rn pg_G d 7 39 ls (io_v 6 :: t) g r := rn_bipush tb_7_37 r
theorem tb_7_39 : mm_tb pg_G 7 39 = some (.if_icmp .ge 17, 56, 0, 0) := rfl
theorem st_7_39 {d : Nat} {ls t : List Value} {g : mm_M} {r : mm_R} {x y : Int32} : mm_Rn pg_G d 7 39 ls (.int y :: .int x :: t) g r ↔ if y ≤ x then mm_Rn pg_G d 7 56 ls (t) g r else mm_Rn pg_G d 7 42 ls (t) g r := rn_icmp_ge tb_7_39 r
theorem tb_7_42 : mm_tb pg_G 7 42 = some (.aload_n 0, 0, 0, 0) := rfl
theorem st_7_42 {l1 l2 l3 l4 : Value} {d : Nat} {t : List Value} {g : mm_M} {r : mm_R} {x : Nat} : mm_Rn pg_G d 7 42 [.ref x, l1, l2, l3, l4] (t) g r ↔ mm_Rn pg_G d 7 43 [.ref x, l1, l2, l3, l4] (.ref x :: t) g r := rn_aload_n tb_7_42 rfl r
theorem tb_7_43 : mm_tb pg_G 7 43 = some (.getfield 9, 5, 0, 124) := rfl
theorem st_7_43 {d : Nat} {ls t : List Value} {g : mm_M} {r : mm_R} {x : Nat} (hT : g.1 x = some (5, 7)) : mm_Rn pg_G d 7 43 ls (.ref x :: t) g r ↔ mm_Rn pg_G d 7 46 ls (g.2.1 x 0 :: t) g r := rn_getfield tb_7_43 hT r
theorem tb_7_46 : mm_tb pg_G 7 46 = some (.iload 4, 0, 0, 0) := rfl
theorem st_7_46 {l0 l1 l2 l3 : Value} {d : Nat} {t : List Value} {g : mm_M} {r : mm_R} {x : Int32} : mm_Rn pg_G d 7 46 [l0, l1, l2, l3, .int x] (t) g r ↔ mm_Rn pg_G d 7 48 [l0, l1, l2, l3, .int x] (.int x :: t) g r := rn_iload tb_7_46 rfl r
theorem tb_7_48 : mm_tb pg_G 7 48 = some (.iconst 0, 0, 0, 0) := rfl
theorem st_7_48 {d : Nat} {ls t : List Value} {g : mm_M} {r : mm_R} : mm_Rn pg_G d 7 48 ls (t) g r ↔ mm_Rn pg_G d 7 49 ls (io_v 0 :: t) g r := rn_iconst tb_7_48 r
theorem tb_7_49 : mm_tb pg_G 7 49 = some (.iastore, 0, 0, 0) := rfl
theorem st_7_49 {d : Nat} {ls t : List Value} {g : mm_M} {r : mm_R} {x : Nat} {j v : Int32} (hc : mm_in (g.1 x) 100 100 j = true) : mm_Rn pg_G d 7 49 ls (.int v :: .int j :: .ref x :: t) g r ↔ mm_Rn pg_G d 7 50 ls (t) (mm_wr g x j.toNatClampNeg (.int v)) r := rn_iastore tb_7_49 hc r
theorem tb_7_50 : mm_tb pg_G 7 50 = some (.iinc 4 1, 0, 0, 0) := rfl
theorem st_7_50 {l0 l1 l2 l3 : Value} {d : Nat} {t : List Value} {g : mm_M} {r : mm_R} {x : Int32} (hc : mm_c1 l3 = true) : mm_Rn pg_G d 7 50 [l0, l1, l2, l3, .int x] (t) g r ↔ mm_Rn pg_G d 7 53 [l0, l1, l2, l3, .int (x + Int32.ofInt 1)] (t) g r := rn_iinc tb_7_50 rfl (mm_so_of (ls := [l0, l1, l2, l3, .int x]) (v := l3) (Nat.le_of_ble_eq_true rfl) rfl hc) r
theorem tb_7_53 : mm_tb pg_G 7 53 = some (.goto (-18), 35, 0, 0) := rfl
theorem st_7_53 {d : Nat} {ls t : List Value} {g : mm_M} {r : mm_R} : mm_Rn pg_G d 7 53 ls (t) g r ↔ mm_Rn pg_G d 7 35 ls (t) g r := rn_goto tb_7_53 r
theorem tb_7_56 : mm_tb pg_G 7 56 = some (.return_, 0, 0, 0) := rfl
theorem st_7_56 {d : Nat} {ls : List Value} {g : mm_M} {r : mm_R} : mm_Rn pg_G d 7 56 ls [] g r ↔ r = (none, g) := rn_return_iff tb_7_56 rfl r
theorem tb_8_0 : mm_tb pg_G 8 0 = some (.aload_n 0, 0, 0, 0) := rfl
theorem st_8_0 {l1 l2 : Value} {d : Nat} {t : List Value} {g : mm_M} {r : mm_R} {x : Nat} : mm_Rn pg_G d 8 0 [.ref x, l1, l2] (t) g r ↔ mm_Rn pg_G d 8 1 [.ref x, l1, l2] (.ref x :: t) g r := rn_aload_n tb_8_0 rfl r
theorem tb_8_1 : mm_tb pg_G 8 1 = some (.dup, 0, 0, 0) := rfl
theorem st_8_1 {d : Nat} {ls t : List Value} {g : mm_M} {r : mm_R} {v : Value} (hc : mm_c1 v = true) : mm_Rn pg_G d 8 1 ls (v :: t) g r ↔ mm_Rn pg_G d 8 2 ls (v :: v :: t) g r := rn_dup tb_8_1 hc r
theorem tb_8_2 : mm_tb pg_G 8 2 = some (.getfield 31, 5, 6, 133) := rfl
theorem st_8_2 {d : Nat} {ls t : List Value} {g : mm_M} {r : mm_R} {x : Nat} (hT : g.1 x = some (5, 7)) : mm_Rn pg_G d 8 2 ls (.ref x :: t) g r ↔ mm_Rn pg_G d 8 5 ls (g.2.1 x 6 :: t) g r := rn_getfield tb_8_2 hT r
theorem tb_8_5 : mm_tb pg_G 8 5 = some (.iconst 1, 0, 0, 0) := rfl
theorem st_8_5 {d : Nat} {ls t : List Value} {g : mm_M} {r : mm_R} : mm_Rn pg_G d 8 5 ls (t) g r ↔ mm_Rn pg_G d 8 6 ls (io_v 1 :: t) g r := rn_iconst tb_8_5 r
theorem tb_8_6 : mm_tb pg_G 8 6 = some (.iadd, 0, 0, 0) := rfl
theorem st_8_6 {d : Nat} {ls t : List Value} {g : mm_M} {r : mm_R} {x y : Int32} : mm_Rn pg_G d 8 6 ls (.int y :: .int x :: t) g r ↔ mm_Rn pg_G d 8 7 ls (.int (x + y) :: t) g r := rn_iadd tb_8_6 r
theorem tb_8_7 : mm_tb pg_G 8 7 = some (.putfield 31, 5, 6, 133) := rfl
theorem st_8_7 {d : Nat} {ls t : List Value} {g : mm_M} {r : mm_R} {x : Nat} {v : Int32} (hT : g.1 x = some (5, 7)) : mm_Rn pg_G d 8 7 ls (.int v :: .ref x :: t) g r ↔ mm_Rn pg_G d 8 10 ls (t) (mm_wr g x 6 (.int v)) r := rn_putfield tb_8_7 hT rfl r
theorem tb_8_10 : mm_tb pg_G 8 10 = some (.iload_n 2, 0, 0, 0) := rfl
theorem st_8_10 {l0 l1 : Value} {d : Nat} {t : List Value} {g : mm_M} {r : mm_R} {x : Int32} : mm_Rn pg_G d 8 10 [l0, l1, .int x] (t) g r ↔ mm_Rn pg_G d 8 11 [l0, l1, .int x] (.int x :: t) g r := rn_iload_n tb_8_10 rfl r
theorem tb_8_11 : mm_tb pg_G 8 11 = some (.ifCond .eq 30, 41, 0, 0) := rfl
theorem st_8_11 {d : Nat} {ls t : List Value} {g : mm_M} {r : mm_R} {x : Int32} : mm_Rn pg_G d 8 11 ls (.int x :: t) g r ↔ if x = 0 then mm_Rn pg_G d 8 41 ls (t) g r else mm_Rn pg_G d 8 14 ls (t) g r := rn_if_eq tb_8_11 r
theorem tb_8_14 : mm_tb pg_G 8 14 = some (.aload_n 0, 0, 0, 0) := rfl
theorem st_8_14 {l1 l2 : Value} {d : Nat} {t : List Value} {g : mm_M} {r : mm_R} {x : Nat} : mm_Rn pg_G d 8 14 [.ref x, l1, l2] (t) g r ↔ mm_Rn pg_G d 8 15 [.ref x, l1, l2] (.ref x :: t) g r := rn_aload_n tb_8_14 rfl r
theorem tb_8_15 : mm_tb pg_G 8 15 = some (.getfield 9, 5, 0, 124) := rfl
theorem st_8_15 {d : Nat} {ls t : List Value} {g : mm_M} {r : mm_R} {x : Nat} (hT : g.1 x = some (5, 7)) : mm_Rn pg_G d 8 15 ls (.ref x :: t) g r ↔ mm_Rn pg_G d 8 18 ls (g.2.1 x 0 :: t) g r := rn_getfield tb_8_15 hT r
theorem tb_8_18 : mm_tb pg_G 8 18 = some (.iload_n 1, 0, 0, 0) := rfl
theorem st_8_18 {l0 l2 : Value} {d : Nat} {t : List Value} {g : mm_M} {r : mm_R} {x : Int32} : mm_Rn pg_G d 8 18 [l0, .int x, l2] (t) g r ↔ mm_Rn pg_G d 8 19 [l0, .int x, l2] (.int x :: t) g r := rn_iload_n tb_8_18 rfl r
theorem tb_8_19 : mm_tb pg_G 8 19 = some (.iaload, 0, 0, 0) := rfl
theorem st_8_19 {d : Nat} {ls t : List Value} {g : mm_M} {r : mm_R} {x : Nat} {j : Int32} (hc : mm_in (g.1 x) 100 101 j = true) : mm_Rn pg_G d 8 19 ls (.int j :: .ref x :: t) g r ↔ mm_Rn pg_G d 8 20 ls (g.2.1 x j.toNatClampNeg :: t) g r := rn_iaload tb_8_19 hc r
theorem tb_8_20 : mm_tb pg_G 8 20 = some (.iload_n 2, 0, 0, 0) := rfl
theorem st_8_20 {l0 l1 : Value} {d : Nat} {t : List Value} {g : mm_M} {r : mm_R} {x : Int32} : mm_Rn pg_G d 8 20 [l0, l1, .int x] (t) g r ↔ mm_Rn pg_G d 8 21 [l0, l1, .int x] (.int x :: t) g r := rn_iload_n tb_8_20 rfl r
theorem tb_8_21 : mm_tb pg_G 8 21 = some (.if_icmp .eq 20, 41, 0, 0) := rfl
theorem st_8_21 {d : Nat} {ls t : List Value} {g : mm_M} {r : mm_R} {x y : Int32} : mm_Rn pg_G d 8 21 ls (.int y :: .int x :: t) g r ↔ if x = y then mm_Rn pg_G d 8 41 ls (t) g r else mm_Rn pg_G d 8 24 ls (t) g r := rn_icmp_eq tb_8_21 r
theorem tb_8_24 : mm_tb pg_G 8 24 = some (.aload_n 0, 0, 0, 0) := rfl
theorem st_8_24 {l1 l2 : Value} {d : Nat} {t : List Value} {g : mm_M} {r : mm_R} {x : Nat} : mm_Rn pg_G d 8 24 [.ref x, l1, l2] (t) g r ↔ mm_Rn pg_G d 8 25 [.ref x, l1, l2] (.ref x :: t) g r := rn_aload_n tb_8_24 rfl r
theorem tb_8_25 : mm_tb pg_G 8 25 = some (.getfield 9, 5, 0, 124) := rfl
theorem st_8_25 {d : Nat} {ls t : List Value} {g : mm_M} {r : mm_R} {x : Nat} (hT : g.1 x = some (5, 7)) : mm_Rn pg_G d 8 25 ls (.ref x :: t) g r ↔ mm_Rn pg_G d 8 28 ls (g.2.1 x 0 :: t) g r := rn_getfield tb_8_25 hT r
theorem tb_8_28 : mm_tb pg_G 8 28 = some (.iload_n 1, 0, 0, 0) := rfl
theorem st_8_28 {l0 l2 : Value} {d : Nat} {t : List Value} {g : mm_M} {r : mm_R} {x : Int32} : mm_Rn pg_G d 8 28 [l0, .int x, l2] (t) g r ↔ mm_Rn pg_G d 8 29 [l0, .int x, l2] (.int x :: t) g r := rn_iload_n tb_8_28 rfl r
theorem tb_8_29 : mm_tb pg_G 8 29 = some (.iload_n 2, 0, 0, 0) := rfl
theorem st_8_29 {l0 l1 : Value} {d : Nat} {t : List Value} {g : mm_M} {r : mm_R} {x : Int32} : mm_Rn pg_G d 8 29 [l0, l1, .int x] (t) g r ↔ mm_Rn pg_G d 8 30 [l0, l1, .int x] (.int x :: t) g r := rn_iload_n tb_8_29 rfl r
theorem tb_8_30 : mm_tb pg_G 8 30 = some (.iastore, 0, 0, 0) := rfl
theorem st_8_30 {d : Nat} {ls t : List Value} {g : mm_M} {r : mm_R} {x : Nat} {j v : Int32} (hc : mm_in (g.1 x) 100 100 j = true) : mm_Rn pg_G d 8 30 ls (.int v :: .int j :: .ref x :: t) g r ↔ mm_Rn pg_G d 8 31 ls (t) (mm_wr g x j.toNatClampNeg (.int v)) r := rn_iastore tb_8_30 hc r
theorem tb_8_31 : mm_tb pg_G 8 31 = some (.aload_n 0, 0, 0, 0) := rfl
theorem st_8_31 {l1 l2 : Value} {d : Nat} {t : List Value} {g : mm_M} {r : mm_R} {x : Nat} : mm_Rn pg_G d 8 31 [.ref x, l1, l2] (t) g r ↔ mm_Rn pg_G d 8 32 [.ref x, l1, l2] (.ref x :: t) g r := rn_aload_n tb_8_31 rfl r
theorem tb_8_32 : mm_tb pg_G 8 32 = some (.dup, 0, 0, 0) := rfl
theorem st_8_32 {d : Nat} {ls t : List Value} {g : mm_M} {r : mm_R} {v : Value} (hc : mm_c1 v = true) : mm_Rn pg_G d 8 32 ls (v :: t) g r ↔ mm_Rn pg_G d 8 33 ls (v :: v :: t) g r := rn_dup tb_8_32 hc r
theorem tb_8_33 : mm_tb pg_G 8 33 = some (.getfield 28, 5, 5, 132) := rfl
theorem st_8_33 {d : Nat} {ls t : List Value} {g : mm_M} {r : mm_R} {x : Nat} (hT : g.1 x = some (5, 7)) : mm_Rn pg_G d 8 33 ls (.ref x :: t) g r ↔ mm_Rn pg_G d 8 36 ls (g.2.1 x 5 :: t) g r := rn_getfield tb_8_33 hT r
theorem tb_8_36 : mm_tb pg_G 8 36 = some (.iconst 1, 0, 0, 0) := rfl
theorem st_8_36 {d : Nat} {ls t : List Value} {g : mm_M} {r : mm_R} : mm_Rn pg_G d 8 36 ls (t) g r ↔ mm_Rn pg_G d 8 37 ls (io_v 1 :: t) g r := rn_iconst tb_8_36 r
theorem tb_8_37 : mm_tb pg_G 8 37 = some (.iadd, 0, 0, 0) := rfl
theorem st_8_37 {d : Nat} {ls t : List Value} {g : mm_M} {r : mm_R} {x y : Int32} : mm_Rn pg_G d 8 37 ls (.int y :: .int x :: t) g r ↔ mm_Rn pg_G d 8 38 ls (.int (x + y) :: t) g r := rn_iadd tb_8_37 r
theorem tb_8_38 : mm_tb pg_G 8 38 = some (.putfield 28, 5, 5, 132) := rfl
theorem st_8_38 {d : Nat} {ls t : List Value} {g : mm_M} {r : mm_R} {x : Nat} {v : Int32} (hT : g.1 x = some (5, 7)) : mm_Rn pg_G d 8 38 ls (.int v :: .ref x :: t) g r ↔ mm_Rn pg_G d 8 41 ls (t) (mm_wr g x 5 (.int v)) r := rn_putfield tb_8_38 hT rfl r
theorem tb_8_41 : mm_tb pg_G 8 41 = some (.return_, 0, 0, 0) := rfl
theorem st_8_41 {d : Nat} {ls : List Value} {g : mm_M} {r : mm_R} : mm_Rn pg_G d 8 41 ls [] g r ↔ r = (none, g) := rn_return_iff tb_8_41 rfl r
theorem tb_9_0 : mm_tb pg_G 9 0 = some (.iload_n 1, 0, 0, 0) := rfl
theorem st_9_0 {l0 : Value} {d : Nat} {t : List Value} {g : mm_M} {r : mm_R} {x : Int32} : mm_Rn pg_G d 9 0 [l0, .int x] (t) g r ↔ mm_Rn pg_G d 9 1 [l0, .int x] (.int x :: t) g r := rn_iload_n tb_9_0 rfl r
theorem tb_9_1 : mm_tb pg_G 9 1 = some (.tableswitch 56 0 3 #[31, 41, 46, 51], 0, 31, 0) := rfl
theorem st_9_1_d {d : Nat} {ls t : List Value} {g : mm_M} {r : mm_R} {x : Int32} (hx : x.toInt < 0 ∨ 3 < x.toInt) : mm_Rn pg_G d 9 1 ls (.int x :: t) g r ↔ mm_Rn pg_G d 9 57 ls (t) g r := rn_ts tb_9_1 (if_pos hx) rfl r
theorem st_9_1_0 {d : Nat} {ls t : List Value} {g : mm_M} {r : mm_R} {x : Int32} (hx : x.toInt = 0) : mm_Rn pg_G d 9 1 ls (.int x :: t) g r ↔ mm_Rn pg_G d 9 32 ls (t) g r := rn_ts (off := 31) tb_9_1 (by rw [hx]; rfl) rfl r
theorem st_9_1_1 {d : Nat} {ls t : List Value} {g : mm_M} {r : mm_R} {x : Int32} (hx : x.toInt = 1) : mm_Rn pg_G d 9 1 ls (.int x :: t) g r ↔ mm_Rn pg_G d 9 42 ls (t) g r := rn_ts (off := 41) tb_9_1 (by rw [hx]; rfl) rfl r
theorem st_9_1_2 {d : Nat} {ls t : List Value} {g : mm_M} {r : mm_R} {x : Int32} (hx : x.toInt = 2) : mm_Rn pg_G d 9 1 ls (.int x :: t) g r ↔ mm_Rn pg_G d 9 47 ls (t) g r := rn_ts (off := 46) tb_9_1 (by rw [hx]; rfl) rfl r
theorem st_9_1_3 {d : Nat} {ls t : List Value} {g : mm_M} {r : mm_R} {x : Int32} (hx : x.toInt = 3) : mm_Rn pg_G d 9 1 ls (.int x :: t) g r ↔ mm_Rn pg_G d 9 52 ls (t) g r := rn_ts (off := 51) tb_9_1 (by rw [hx]; rfl) rfl r
theorem tb_9_32 : mm_tb pg_G 9 32 = some (.aload_n 0, 0, 0, 0) := rfl
theorem st_9_32 {l1 : Value} {d : Nat} {t : List Value} {g : mm_M} {r : mm_R} {x : Nat} : mm_Rn pg_G d 9 32 [.ref x, l1] (t) g r ↔ mm_Rn pg_G d 9 33 [.ref x, l1] (.ref x :: t) g r := rn_aload_n tb_9_32 rfl r
theorem tb_9_33 : mm_tb pg_G 9 33 = some (.getfield 15, 5, 1, 125) := rfl
theorem st_9_33 {d : Nat} {ls t : List Value} {g : mm_M} {r : mm_R} {x : Nat} (hT : g.1 x = some (5, 7)) : mm_Rn pg_G d 9 33 ls (.ref x :: t) g r ↔ mm_Rn pg_G d 9 36 ls (g.2.1 x 1 :: t) g r := rn_getfield tb_9_33 hT r
theorem tb_9_36 : mm_tb pg_G 9 36 = some (.aload_n 0, 0, 0, 0) := rfl
theorem st_9_36 {l1 : Value} {d : Nat} {t : List Value} {g : mm_M} {r : mm_R} {x : Nat} : mm_Rn pg_G d 9 36 [.ref x, l1] (t) g r ↔ mm_Rn pg_G d 9 37 [.ref x, l1] (.ref x :: t) g r := rn_aload_n tb_9_36 rfl r
theorem tb_9_37 : mm_tb pg_G 9 37 = some (.getfield 19, 5, 2, 126) := rfl
theorem st_9_37 {d : Nat} {ls t : List Value} {g : mm_M} {r : mm_R} {x : Nat} (hT : g.1 x = some (5, 7)) : mm_Rn pg_G d 9 37 ls (.ref x :: t) g r ↔ mm_Rn pg_G d 9 40 ls (g.2.1 x 2 :: t) g r := rn_getfield tb_9_37 hT r
theorem tb_9_40 : mm_tb pg_G 9 40 = some (.isub, 0, 0, 0) := rfl
theorem st_9_40 {d : Nat} {ls t : List Value} {g : mm_M} {r : mm_R} {x y : Int32} : mm_Rn pg_G d 9 40 ls (.int y :: .int x :: t) g r ↔ mm_Rn pg_G d 9 41 ls (.int (x - y) :: t) g r := rn_isub tb_9_40 r
theorem tb_9_41 : mm_tb pg_G 9 41 = some (.ireturn, 0, 0, 0) := rfl
theorem st_9_41 {d : Nat} {ls : List Value} {g : mm_M} {r : mm_R} {x : Int32} : mm_Rn pg_G d 9 41 ls [.int x] g r ↔ r = (some (.int x), g) := rn_ireturn_iff tb_9_41 (Or.inl rfl) r
theorem tb_9_42 : mm_tb pg_G 9 42 = some (.aload_n 0, 0, 0, 0) := rfl
theorem st_9_42 {l1 : Value} {d : Nat} {t : List Value} {g : mm_M} {r : mm_R} {x : Nat} : mm_Rn pg_G d 9 42 [.ref x, l1] (t) g r ↔ mm_Rn pg_G d 9 43 [.ref x, l1] (.ref x :: t) g r := rn_aload_n tb_9_42 rfl r
theorem tb_9_43 : mm_tb pg_G 9 43 = some (.getfield 25, 5, 4, 130) := rfl
theorem st_9_43 {d : Nat} {ls t : List Value} {g : mm_M} {r : mm_R} {x : Nat} (hT : g.1 x = some (5, 7)) : mm_Rn pg_G d 9 43 ls (.ref x :: t) g r ↔ mm_Rn pg_G d 9 46 ls (g.2.1 x 4 :: t) g r := rn_getfield tb_9_43 hT r
theorem tb_9_46 : mm_tb pg_G 9 46 = some (.ireturn, 0, 0, 0) := rfl
theorem st_9_46 {d : Nat} {ls : List Value} {g : mm_M} {r : mm_R} {x : Int32} : mm_Rn pg_G d 9 46 ls [.int x] g r ↔ r = (some (.int x), g) := rn_ireturn_iff tb_9_46 (Or.inl rfl) r
theorem tb_9_47 : mm_tb pg_G 9 47 = some (.aload_n 0, 0, 0, 0) := rfl
theorem st_9_47 {l1 : Value} {d : Nat} {t : List Value} {g : mm_M} {r : mm_R} {x : Nat} : mm_Rn pg_G d 9 47 [.ref x, l1] (t) g r ↔ mm_Rn pg_G d 9 48 [.ref x, l1] (.ref x :: t) g r := rn_aload_n tb_9_47 rfl r
theorem tb_9_48 : mm_tb pg_G 9 48 = some (.getfield 28, 5, 5, 132) := rfl
theorem st_9_48 {d : Nat} {ls t : List Value} {g : mm_M} {r : mm_R} {x : Nat} (hT : g.1 x = some (5, 7)) : mm_Rn pg_G d 9 48 ls (.ref x :: t) g r ↔ mm_Rn pg_G d 9 51 ls (g.2.1 x 5 :: t) g r := rn_getfield tb_9_48 hT r
theorem tb_9_51 : mm_tb pg_G 9 51 = some (.ireturn, 0, 0, 0) := rfl
theorem st_9_51 {d : Nat} {ls : List Value} {g : mm_M} {r : mm_R} {x : Int32} : mm_Rn pg_G d 9 51 ls [.int x] g r ↔ r = (some (.int x), g) := rn_ireturn_iff tb_9_51 (Or.inl rfl) r
theorem tb_9_52 : mm_tb pg_G 9 52 = some (.aload_n 0, 0, 0, 0) := rfl
theorem st_9_52 {l1 : Value} {d : Nat} {t : List Value} {g : mm_M} {r : mm_R} {x : Nat} : mm_Rn pg_G d 9 52 [.ref x, l1] (t) g r ↔ mm_Rn pg_G d 9 53 [.ref x, l1] (.ref x :: t) g r := rn_aload_n tb_9_52 rfl r
theorem tb_9_53 : mm_tb pg_G 9 53 = some (.getfield 31, 5, 6, 133) := rfl
theorem st_9_53 {d : Nat} {ls t : List Value} {g : mm_M} {r : mm_R} {x : Nat} (hT : g.1 x = some (5, 7)) : mm_Rn pg_G d 9 53 ls (.ref x :: t) g r ↔ mm_Rn pg_G d 9 56 ls (g.2.1 x 6 :: t) g r := rn_getfield tb_9_53 hT r
theorem tb_9_56 : mm_tb pg_G 9 56 = some (.ireturn, 0, 0, 0) := rfl
theorem st_9_56 {d : Nat} {ls : List Value} {g : mm_M} {r : mm_R} {x : Int32} : mm_Rn pg_G d 9 56 ls [.int x] g r ↔ r = (some (.int x), g) := rn_ireturn_iff tb_9_56 (Or.inl rfl) r
theorem tb_9_57 : mm_tb pg_G 9 57 = some (.iconst (-1), 0, 0, 0) := rfl
theorem st_9_57 {d : Nat} {ls t : List Value} {g : mm_M} {r : mm_R} : mm_Rn pg_G d 9 57 ls (t) g r ↔ mm_Rn pg_G d 9 58 ls (io_v (-1) :: t) g r := rn_iconst tb_9_57 r
theorem tb_9_58 : mm_tb pg_G 9 58 = some (.ireturn, 0, 0, 0) := rfl
theorem st_9_58 {d : Nat} {ls : List Value} {g : mm_M} {r : mm_R} {x : Int32} : mm_Rn pg_G d 9 58 ls [.int x] g r ↔ r = (some (.int x), g) := rn_ireturn_iff tb_9_58 (Or.inl rfl) r
theorem tb_10_0 : mm_tb pg_G 10 0 = some (.aload_n 0, 0, 0, 0) := rfl
theorem st_10_0 {l1 l2 l3 : Value} {d : Nat} {t : List Value} {g : mm_M} {r : mm_R} {x : Nat} : mm_Rn pg_G d 10 0 [.ref x, l1, l2, l3] (t) g r ↔ mm_Rn pg_G d 10 1 [.ref x, l1, l2, l3] (.ref x :: t) g r := rn_aload_n tb_10_0 rfl r
theorem tb_10_1 : mm_tb pg_G 10 1 = some (.invokespecial 3, 998, 0, 117) := rfl
theorem st_10_1 {d : Nat} {ls t : List Value} {g : mm_M} {r : mm_R} {x : Nat} (hl : t.length ≤ 4) : mm_Rn pg_G (d + 1) 10 1 ls (.ref x :: t) g r ↔ mm_Rn pg_G (d + 1) 10 4 ls (t) g r := rn_oinit tb_10_1 hl r
theorem tb_10_4 : mm_tb pg_G 10 4 = some (.aload_n 0, 0, 0, 0) := rfl
theorem st_10_4 {l1 l2 l3 : Value} {d : Nat} {t : List Value} {g : mm_M} {r : mm_R} {x : Nat} : mm_Rn pg_G d 10 4 [.ref x, l1, l2, l3] (t) g r ↔ mm_Rn pg_G d 10 5 [.ref x, l1, l2, l3] (.ref x :: t) g r := rn_aload_n tb_10_4 rfl r
theorem tb_10_5 : mm_tb pg_G 10 5 = some (.iconst 4, 0, 0, 0) := rfl
theorem st_10_5 {d : Nat} {ls t : List Value} {g : mm_M} {r : mm_R} : mm_Rn pg_G d 10 5 ls (t) g r ↔ mm_Rn pg_G d 10 6 ls (io_v 4 :: t) g r := rn_iconst tb_10_5 r
theorem tb_10_6 : mm_tb pg_G 10 6 = some (.anewarray 9, 103, 0, 118) := rfl
theorem st_10_6 {d : Nat} {ls t : List Value} {g : mm_M} {r : mm_R} {x : Nat} {n : Int32} (hx : mm_pk pg_G 10 6 ls g.2.1 = x) (hT : g.1 x = none) (h0 : 0 ≤ n) (h1 : n.toNatClampNeg ≤ 1000) : mm_Rn pg_G d 10 6 ls (.int n :: t) g r ↔ mm_Rn pg_G d 10 9 ls (.ref x :: t) (mm_al g x 103 n.toNatClampNeg fun _ => .null) r := rn_anewarray tb_10_6 hx hT h0 h1 r
theorem tb_10_9 : mm_tb pg_G 10 9 = some (.putfield 11, 3, 3, 147) := rfl
theorem st_10_9 {d : Nat} {ls t : List Value} {g : mm_M} {r : mm_R} {x : Nat} {v : Nat} (hT : g.1 x = some (3, 10)) : mm_Rn pg_G d 10 9 ls (.ref v :: .ref x :: t) g r ↔ mm_Rn pg_G d 10 12 ls (t) (mm_wr g x 3 (.ref v)) r := rn_putfield tb_10_9 hT rfl r
theorem tb_10_12 : mm_tb pg_G 10 12 = some (.aload_n 0, 0, 0, 0) := rfl
theorem st_10_12 {l1 l2 l3 : Value} {d : Nat} {t : List Value} {g : mm_M} {r : mm_R} {x : Nat} : mm_Rn pg_G d 10 12 [.ref x, l1, l2, l3] (t) g r ↔ mm_Rn pg_G d 10 13 [.ref x, l1, l2, l3] (.ref x :: t) g r := rn_aload_n tb_10_12 rfl r
theorem tb_10_13 : mm_tb pg_G 10 13 = some (.new 17, 5, 0, 119) := rfl
theorem st_10_13 {d : Nat} {ls t : List Value} {g : mm_M} {r : mm_R} {x : Nat} (hx : mm_pk pg_G 10 13 ls g.2.1 = x) (hT : g.1 x = none) : mm_Rn pg_G d 10 13 ls (t) g r ↔ mm_Rn pg_G d 10 16 ls (.ref x :: t) (mm_al g x 5 7 fun k => defaultValue (mm_ft pg_G 5 k)) r := rn_new tb_10_13 hx hT r
theorem tb_10_16 : mm_tb pg_G 10 16 = some (.dup, 0, 0, 0) := rfl
theorem st_10_16 {d : Nat} {ls t : List Value} {g : mm_M} {r : mm_R} {v : Value} (hc : mm_c1 v = true) : mm_Rn pg_G d 10 16 ls (v :: t) g r ↔ mm_Rn pg_G d 10 17 ls (v :: v :: t) g r := rn_dup tb_10_16 hc r
theorem tb_10_17 : mm_tb pg_G 10 17 = some (.invokespecial 19, 3, 1, 2) := rfl
theorem st_10_17 {d c s c' s' : Nat} {ls t : List Value} {I J : sp_I} {r : mm_R} {y : Nat} (hl : t.length ≤ 4) (hq : mm_Rn pg_G d 3 0 [.ref y] [] (sp_me I 0 0) (none, sp_me J c' s')) : mm_Rn pg_G (d + 1) 10 17 ls (.ref y :: t) (sp_me I c s) r ↔ mm_Rn pg_G (d + 1) 10 20 ls (t) (sp_me J (c + c') (s + s')) r := rn_spec (g := sp_me I c s) (st := .ref y :: t) tb_10_17 (by decide) rfl ⟨Nat.le_add_left _ t.length, hl, rfl⟩ hq r
theorem tb_10_20 : mm_tb pg_G 10 20 = some (.putfield 20, 3, 4, 148) := rfl
theorem st_10_20 {d : Nat} {ls t : List Value} {g : mm_M} {r : mm_R} {x : Nat} {v : Nat} (hT : g.1 x = some (3, 10)) : mm_Rn pg_G d 10 20 ls (.ref v :: .ref x :: t) g r ↔ mm_Rn pg_G d 10 23 ls (t) (mm_wr g x 4 (.ref v)) r := rn_putfield tb_10_20 hT rfl r
theorem tb_10_23 : mm_tb pg_G 10 23 = some (.aload_n 0, 0, 0, 0) := rfl
theorem st_10_23 {l1 l2 l3 : Value} {d : Nat} {t : List Value} {g : mm_M} {r : mm_R} {x : Nat} : mm_Rn pg_G d 10 23 [.ref x, l1, l2, l3] (t) g r ↔ mm_Rn pg_G d 10 24 [.ref x, l1, l2, l3] (.ref x :: t) g r := rn_aload_n tb_10_23 rfl r
theorem tb_10_24 : mm_tb pg_G 10 24 = some (.iconst 0, 0, 0, 0) := rfl
theorem st_10_24 {d : Nat} {ls t : List Value} {g : mm_M} {r : mm_R} : mm_Rn pg_G d 10 24 ls (t) g r ↔ mm_Rn pg_G d 10 25 ls (io_v 0 :: t) g r := rn_iconst tb_10_24 r
theorem tb_10_25 : mm_tb pg_G 10 25 = some (.putfield 24, 3, 5, 150) := rfl
theorem st_10_25 {d : Nat} {ls t : List Value} {g : mm_M} {r : mm_R} {x : Nat} {v : Int32} (hT : g.1 x = some (3, 10)) : mm_Rn pg_G d 10 25 ls (.int v :: .ref x :: t) g r ↔ mm_Rn pg_G d 10 28 ls (t) (mm_wr g x 5 (.int v)) r := rn_putfield tb_10_25 hT rfl r
theorem tb_10_28 : mm_tb pg_G 10 28 = some (.aload_n 0, 0, 0, 0) := rfl
theorem st_10_28 {l1 l2 l3 : Value} {d : Nat} {t : List Value} {g : mm_M} {r : mm_R} {x : Nat} : mm_Rn pg_G d 10 28 [.ref x, l1, l2, l3] (t) g r ↔ mm_Rn pg_G d 10 29 [.ref x, l1, l2, l3] (.ref x :: t) g r := rn_aload_n tb_10_28 rfl r
theorem tb_10_29 : mm_tb pg_G 10 29 = some (.iconst 0, 0, 0, 0) := rfl
theorem st_10_29 {d : Nat} {ls t : List Value} {g : mm_M} {r : mm_R} : mm_Rn pg_G d 10 29 ls (t) g r ↔ mm_Rn pg_G d 10 30 ls (io_v 0 :: t) g r := rn_iconst tb_10_29 r
theorem tb_10_30 : mm_tb pg_G 10 30 = some (.putfield 28, 3, 6, 151) := rfl
theorem st_10_30 {d : Nat} {ls t : List Value} {g : mm_M} {r : mm_R} {x : Nat} {v : Int32} (hT : g.1 x = some (3, 10)) : mm_Rn pg_G d 10 30 ls (.int v :: .ref x :: t) g r ↔ mm_Rn pg_G d 10 33 ls (t) (mm_wr g x 6 (.int v)) r := rn_putfield tb_10_30 hT rfl r
theorem tb_10_33 : mm_tb pg_G 10 33 = some (.aload_n 0, 0, 0, 0) := rfl
theorem st_10_33 {l1 l2 l3 : Value} {d : Nat} {t : List Value} {g : mm_M} {r : mm_R} {x : Nat} : mm_Rn pg_G d 10 33 [.ref x, l1, l2, l3] (t) g r ↔ mm_Rn pg_G d 10 34 [.ref x, l1, l2, l3] (.ref x :: t) g r := rn_aload_n tb_10_33 rfl r
theorem tb_10_34 : mm_tb pg_G 10 34 = some (.iconst 0, 0, 0, 0) := rfl
theorem st_10_34 {d : Nat} {ls t : List Value} {g : mm_M} {r : mm_R} : mm_Rn pg_G d 10 34 ls (t) g r ↔ mm_Rn pg_G d 10 35 ls (io_v 0 :: t) g r := rn_iconst tb_10_34 r
theorem tb_10_35 : mm_tb pg_G 10 35 = some (.putfield 31, 3, 7, 153) := rfl
theorem st_10_35 {d : Nat} {ls t : List Value} {g : mm_M} {r : mm_R} {x : Nat} {v : Int32} (hT : g.1 x = some (3, 10)) : mm_Rn pg_G d 10 35 ls (.int v :: .ref x :: t) g r ↔ mm_Rn pg_G d 10 38 ls (t) (mm_wr g x 7 (.int v)) r := rn_putfield tb_10_35 hT rfl r
theorem tb_10_38 : mm_tb pg_G 10 38 = some (.aload_n 0, 0, 0, 0) := rfl
theorem st_10_38 {l1 l2 l3 : Value} {d : Nat} {t : List Value} {g : mm_M} {r : mm_R} {x : Nat} : mm_Rn pg_G d 10 38 [.ref x, l1, l2, l3] (t) g r ↔ mm_Rn pg_G d 10 39 [.ref x, l1, l2, l3] (.ref x :: t) g r := rn_aload_n tb_10_38 rfl r
theorem tb_10_39 : mm_tb pg_G 10 39 = some (.iconst 0, 0, 0, 0) := rfl
theorem st_10_39 {d : Nat} {ls t : List Value} {g : mm_M} {r : mm_R} : mm_Rn pg_G d 10 39 ls (t) g r ↔ mm_Rn pg_G d 10 40 ls (io_v 0 :: t) g r := rn_iconst tb_10_39 r
theorem tb_10_40 : mm_tb pg_G 10 40 = some (.putfield 34, 3, 8, 155) := rfl
theorem st_10_40 {d : Nat} {ls t : List Value} {g : mm_M} {r : mm_R} {x : Nat} {v : Int32} (hT : g.1 x = some (3, 10)) : mm_Rn pg_G d 10 40 ls (.int v :: .ref x :: t) g r ↔ mm_Rn pg_G d 10 43 ls (t) (mm_wr g x 8 (.int v)) r := rn_putfield tb_10_40 hT rfl r
theorem tb_10_43 : mm_tb pg_G 10 43 = some (.aload_n 0, 0, 0, 0) := rfl
theorem st_10_43 {l1 l2 l3 : Value} {d : Nat} {t : List Value} {g : mm_M} {r : mm_R} {x : Nat} : mm_Rn pg_G d 10 43 [.ref x, l1, l2, l3] (t) g r ↔ mm_Rn pg_G d 10 44 [.ref x, l1, l2, l3] (.ref x :: t) g r := rn_aload_n tb_10_43 rfl r
theorem tb_10_44 : mm_tb pg_G 10 44 = some (.iconst 0, 0, 0, 0) := rfl
theorem st_10_44 {d : Nat} {ls t : List Value} {g : mm_M} {r : mm_R} : mm_Rn pg_G d 10 44 ls (t) g r ↔ mm_Rn pg_G d 10 45 ls (io_v 0 :: t) g r := rn_iconst tb_10_44 r
theorem tb_10_45 : mm_tb pg_G 10 45 = some (.putfield 37, 3, 9, 156) := rfl
theorem st_10_45 {d : Nat} {ls t : List Value} {g : mm_M} {r : mm_R} {x : Nat} {v : Int32} (hT : g.1 x = some (3, 10)) : mm_Rn pg_G d 10 45 ls (.int v :: .ref x :: t) g r ↔ mm_Rn pg_G d 10 48 ls (t) (mm_wr g x 9 (.int v)) r := rn_putfield tb_10_45 hT rfl r
theorem tb_10_48 : mm_tb pg_G 10 48 = some (.aload_n 0, 0, 0, 0) := rfl
theorem st_10_48 {l1 l2 l3 : Value} {d : Nat} {t : List Value} {g : mm_M} {r : mm_R} {x : Nat} : mm_Rn pg_G d 10 48 [.ref x, l1, l2, l3] (t) g r ↔ mm_Rn pg_G d 10 49 [.ref x, l1, l2, l3] (.ref x :: t) g r := rn_aload_n tb_10_48 rfl r
theorem tb_10_49 : mm_tb pg_G 10 49 = some (.iload_n 1, 0, 0, 0) := rfl
theorem st_10_49 {l0 l2 l3 : Value} {d : Nat} {t : List Value} {g : mm_M} {r : mm_R} {x : Int32} : mm_Rn pg_G d 10 49 [l0, .int x, l2, l3] (t) g r ↔ mm_Rn pg_G d 10 50 [l0, .int x, l2, l3] (.int x :: t) g r := rn_iload_n tb_10_49 rfl r
theorem tb_10_50 : mm_tb pg_G 10 50 = some (.putfield 40, 3, 0, 141) := rfl
theorem st_10_50 {d : Nat} {ls t : List Value} {g : mm_M} {r : mm_R} {x : Nat} {v : Int32} (hT : g.1 x = some (3, 10)) : mm_Rn pg_G d 10 50 ls (.int v :: .ref x :: t) g r ↔ mm_Rn pg_G d 10 53 ls (t) (mm_wr g x 0 (.int v)) r := rn_putfield tb_10_50 hT rfl r
theorem tb_10_53 : mm_tb pg_G 10 53 = some (.aload_n 0, 0, 0, 0) := rfl
theorem st_10_53 {l1 l2 l3 : Value} {d : Nat} {t : List Value} {g : mm_M} {r : mm_R} {x : Nat} : mm_Rn pg_G d 10 53 [.ref x, l1, l2, l3] (t) g r ↔ mm_Rn pg_G d 10 54 [.ref x, l1, l2, l3] (.ref x :: t) g r := rn_aload_n tb_10_53 rfl r
theorem tb_10_54 : mm_tb pg_G 10 54 = some (.iload_n 2, 0, 0, 0) := rfl
theorem st_10_54 {l0 l1 l3 : Value} {d : Nat} {t : List Value} {g : mm_M} {r : mm_R} {x : Int32} : mm_Rn pg_G d 10 54 [l0, l1, .int x, l3] (t) g r ↔ mm_Rn pg_G d 10 55 [l0, l1, .int x, l3] (.int x :: t) g r := rn_iload_n tb_10_54 rfl r
theorem tb_10_55 : mm_tb pg_G 10 55 = some (.putfield 43, 3, 1, 143) := rfl
theorem st_10_55 {d : Nat} {ls t : List Value} {g : mm_M} {r : mm_R} {x : Nat} {v : Int32} (hT : g.1 x = some (3, 10)) : mm_Rn pg_G d 10 55 ls (.int v :: .ref x :: t) g r ↔ mm_Rn pg_G d 10 58 ls (t) (mm_wr g x 1 (.int v)) r := rn_putfield tb_10_55 hT rfl r
theorem tb_10_58 : mm_tb pg_G 10 58 = some (.aload_n 0, 0, 0, 0) := rfl
theorem st_10_58 {l1 l2 l3 : Value} {d : Nat} {t : List Value} {g : mm_M} {r : mm_R} {x : Nat} : mm_Rn pg_G d 10 58 [.ref x, l1, l2, l3] (t) g r ↔ mm_Rn pg_G d 10 59 [.ref x, l1, l2, l3] (.ref x :: t) g r := rn_aload_n tb_10_58 rfl r
theorem tb_10_59 : mm_tb pg_G 10 59 = some (.iload_n 3, 0, 0, 0) := rfl
theorem st_10_59 {l0 l1 l2 : Value} {d : Nat} {t : List Value} {g : mm_M} {r : mm_R} {x : Int32} : mm_Rn pg_G d 10 59 [l0, l1, l2, .int x] (t) g r ↔ mm_Rn pg_G d 10 60 [l0, l1, l2, .int x] (.int x :: t) g r := rn_iload_n tb_10_59 rfl r
theorem tb_10_60 : mm_tb pg_G 10 60 = some (.putfield 46, 3, 2, 145) := rfl
theorem st_10_60 {d : Nat} {ls t : List Value} {g : mm_M} {r : mm_R} {x : Nat} {v : Int32} (hT : g.1 x = some (3, 10)) : mm_Rn pg_G d 10 60 ls (.int v :: .ref x :: t) g r ↔ mm_Rn pg_G d 10 63 ls (t) (mm_wr g x 2 (.int v)) r := rn_putfield tb_10_60 hT rfl r
theorem tb_10_63 : mm_tb pg_G 10 63 = some (.return_, 0, 0, 0) := rfl
theorem st_10_63 {d : Nat} {ls : List Value} {g : mm_M} {r : mm_R} : mm_Rn pg_G d 10 63 ls [] g r ↔ r = (none, g) := rn_return_iff tb_10_63 rfl r
theorem tb_11_0 : mm_tb pg_G 11 0 = some (.bipush 101, 0, 0, 0) := rfl
theorem st_11_0 {d : Nat} {ls t : List Value} {g : mm_M} {r : mm_R} : mm_Rn pg_G d 11 0 ls (t) g r ↔ mm_Rn pg_G d 11 2 ls (io_v 101 :: t) g r := rn_bipush tb_11_0 r
theorem tb_11_2 : mm_tb pg_G 11 2 = some (.aload_n 0, 0, 0, 0) := rfl
theorem st_11_2 {d : Nat} {t : List Value} {g : mm_M} {r : mm_R} {x : Nat} : mm_Rn pg_G d 11 2 [.ref x] (t) g r ↔ mm_Rn pg_G d 11 3 [.ref x] (.ref x :: t) g r := rn_aload_n tb_11_2 rfl r
theorem tb_11_3 : mm_tb pg_G 11 3 = some (.getfield 43, 3, 1, 143) := rfl
theorem st_11_3 {d : Nat} {ls t : List Value} {g : mm_M} {r : mm_R} {x : Nat} (hT : g.1 x = some (3, 10)) : mm_Rn pg_G d 11 3 ls (.ref x :: t) g r ↔ mm_Rn pg_G d 11 6 ls (g.2.1 x 1 :: t) g r := rn_getfield tb_11_3 hT r
theorem tb_11_6 : mm_tb pg_G 11 6 = some (.isub, 0, 0, 0) := rfl
theorem st_11_6 {d : Nat} {ls t : List Value} {g : mm_M} {r : mm_R} {x y : Int32} : mm_Rn pg_G d 11 6 ls (.int y :: .int x :: t) g r ↔ mm_Rn pg_G d 11 7 ls (.int (x - y) :: t) g r := rn_isub tb_11_6 r
theorem tb_11_7 : mm_tb pg_G 11 7 = some (.ireturn, 0, 0, 0) := rfl
theorem st_11_7 {d : Nat} {ls : List Value} {g : mm_M} {r : mm_R} {x : Int32} : mm_Rn pg_G d 11 7 ls [.int x] g r ↔ r = (some (.int x), g) := rn_ireturn_iff tb_11_7 (Or.inl rfl) r
theorem tb_12_0 : mm_tb pg_G 12 0 = some (.aload_n 0, 0, 0, 0) := rfl
theorem st_12_0 {l1 l2 l3 l4 : Value} {d : Nat} {t : List Value} {g : mm_M} {r : mm_R} {x : Nat} : mm_Rn pg_G d 12 0 [.ref x, l1, l2, l3, l4] (t) g r ↔ mm_Rn pg_G d 12 1 [.ref x, l1, l2, l3, l4] (.ref x :: t) g r := rn_aload_n tb_12_0 rfl r
theorem tb_12_1 : mm_tb pg_G 12 1 = some (.getfield 24, 3, 5, 150) := rfl
theorem st_12_1 {d : Nat} {ls t : List Value} {g : mm_M} {r : mm_R} {x : Nat} (hT : g.1 x = some (3, 10)) : mm_Rn pg_G d 12 1 ls (.ref x :: t) g r ↔ mm_Rn pg_G d 12 4 ls (g.2.1 x 5 :: t) g r := rn_getfield tb_12_1 hT r
theorem tb_12_4 : mm_tb pg_G 12 4 = some (.iconst 4, 0, 0, 0) := rfl
theorem st_12_4 {d : Nat} {ls t : List Value} {g : mm_M} {r : mm_R} : mm_Rn pg_G d 12 4 ls (t) g r ↔ mm_Rn pg_G d 12 5 ls (io_v 4 :: t) g r := rn_iconst tb_12_4 r
theorem tb_12_5 : mm_tb pg_G 12 5 = some (.if_icmp .ne 5, 10, 0, 0) := rfl
theorem st_12_5 {d : Nat} {ls t : List Value} {g : mm_M} {r : mm_R} {x y : Int32} : mm_Rn pg_G d 12 5 ls (.int y :: .int x :: t) g r ↔ if x = y then mm_Rn pg_G d 12 8 ls (t) g r else mm_Rn pg_G d 12 10 ls (t) g r := rn_icmp_ne tb_12_5 r
theorem tb_12_8 : mm_tb pg_G 12 8 = some (.iconst 0, 0, 0, 0) := rfl
theorem st_12_8 {d : Nat} {ls t : List Value} {g : mm_M} {r : mm_R} : mm_Rn pg_G d 12 8 ls (t) g r ↔ mm_Rn pg_G d 12 9 ls (io_v 0 :: t) g r := rn_iconst tb_12_8 r
theorem tb_12_9 : mm_tb pg_G 12 9 = some (.ireturn, 0, 0, 0) := rfl
theorem st_12_9 {d : Nat} {ls : List Value} {g : mm_M} {r : mm_R} {x : Int32} (hb : x = 0 ∨ x = 1) : mm_Rn pg_G d 12 9 ls [.int x] g r ↔ r = (some (.int x), g) := rn_ireturn_iff tb_12_9 (Or.inr ⟨rfl, hb⟩) r
theorem tb_12_10 : mm_tb pg_G 12 10 = some (.iconst 0, 0, 0, 0) := rfl
theorem st_12_10 {d : Nat} {ls t : List Value} {g : mm_M} {r : mm_R} : mm_Rn pg_G d 12 10 ls (t) g r ↔ mm_Rn pg_G d 12 11 ls (io_v 0 :: t) g r := rn_iconst tb_12_10 r
theorem tb_12_11 : mm_tb pg_G 12 11 = some (.istore 4, 0, 0, 0) := rfl
theorem st_12_11 {l0 l1 l2 l3 l4 : Value} {d : Nat} {t : List Value} {g : mm_M} {r : mm_R} {x : Int32} (hc : mm_c1 l3 = true) : mm_Rn pg_G d 12 11 [l0, l1, l2, l3, l4] (.int x :: t) g r ↔ mm_Rn pg_G d 12 13 [l0, l1, l2, l3, .int x] (t) g r := rn_istore tb_12_11 (mm_so_of (ls := [l0, l1, l2, l3, l4]) (v := l3) (Nat.le_of_ble_eq_true rfl) rfl hc) r
theorem tb_12_13 : mm_tb pg_G 12 13 = some (.iload 4, 0, 0, 0) := rfl
theorem st_12_13 {l0 l1 l2 l3 : Value} {d : Nat} {t : List Value} {g : mm_M} {r : mm_R} {x : Int32} : mm_Rn pg_G d 12 13 [l0, l1, l2, l3, .int x] (t) g r ↔ mm_Rn pg_G d 12 15 [l0, l1, l2, l3, .int x] (.int x :: t) g r := rn_iload tb_12_13 rfl r
theorem tb_12_15 : mm_tb pg_G 12 15 = some (.aload_n 0, 0, 0, 0) := rfl
theorem st_12_15 {l1 l2 l3 l4 : Value} {d : Nat} {t : List Value} {g : mm_M} {r : mm_R} {x : Nat} : mm_Rn pg_G d 12 15 [.ref x, l1, l2, l3, l4] (t) g r ↔ mm_Rn pg_G d 12 16 [.ref x, l1, l2, l3, l4] (.ref x :: t) g r := rn_aload_n tb_12_15 rfl r
theorem tb_12_16 : mm_tb pg_G 12 16 = some (.getfield 24, 3, 5, 150) := rfl
theorem st_12_16 {d : Nat} {ls t : List Value} {g : mm_M} {r : mm_R} {x : Nat} (hT : g.1 x = some (3, 10)) : mm_Rn pg_G d 12 16 ls (.ref x :: t) g r ↔ mm_Rn pg_G d 12 19 ls (g.2.1 x 5 :: t) g r := rn_getfield tb_12_16 hT r
theorem tb_12_19 : mm_tb pg_G 12 19 = some (.if_icmp .ge 27, 46, 0, 0) := rfl
theorem st_12_19 {d : Nat} {ls t : List Value} {g : mm_M} {r : mm_R} {x y : Int32} : mm_Rn pg_G d 12 19 ls (.int y :: .int x :: t) g r ↔ if y ≤ x then mm_Rn pg_G d 12 46 ls (t) g r else mm_Rn pg_G d 12 22 ls (t) g r := rn_icmp_ge tb_12_19 r
theorem tb_12_22 : mm_tb pg_G 12 22 = some (.aload_n 0, 0, 0, 0) := rfl
theorem st_12_22 {l1 l2 l3 l4 : Value} {d : Nat} {t : List Value} {g : mm_M} {r : mm_R} {x : Nat} : mm_Rn pg_G d 12 22 [.ref x, l1, l2, l3, l4] (t) g r ↔ mm_Rn pg_G d 12 23 [.ref x, l1, l2, l3, l4] (.ref x :: t) g r := rn_aload_n tb_12_22 rfl r
theorem tb_12_23 : mm_tb pg_G 12 23 = some (.getfield 11, 3, 3, 147) := rfl
theorem st_12_23 {d : Nat} {ls t : List Value} {g : mm_M} {r : mm_R} {x : Nat} (hT : g.1 x = some (3, 10)) : mm_Rn pg_G d 12 23 ls (.ref x :: t) g r ↔ mm_Rn pg_G d 12 26 ls (g.2.1 x 3 :: t) g r := rn_getfield tb_12_23 hT r
theorem tb_12_26 : mm_tb pg_G 12 26 = some (.iload 4, 0, 0, 0) := rfl
theorem st_12_26 {l0 l1 l2 l3 : Value} {d : Nat} {t : List Value} {g : mm_M} {r : mm_R} {x : Int32} : mm_Rn pg_G d 12 26 [l0, l1, l2, l3, .int x] (t) g r ↔ mm_Rn pg_G d 12 28 [l0, l1, l2, l3, .int x] (.int x :: t) g r := rn_iload tb_12_26 rfl r
theorem tb_12_28 : mm_tb pg_G 12 28 = some (.aaload, 0, 0, 0) := rfl
theorem st_12_28 {d : Nat} {ls t : List Value} {g : mm_M} {r : mm_R} {x : Nat} {j : Int32} (hc : mm_in (g.1 x) 102 103 j = true) : mm_Rn pg_G d 12 28 ls (.int j :: .ref x :: t) g r ↔ mm_Rn pg_G d 12 29 ls (g.2.1 x j.toNatClampNeg :: t) g r := rn_aaload tb_12_28 hc r
theorem tb_12_29 : mm_tb pg_G 12 29 = some (.iload_n 1, 0, 0, 0) := rfl
theorem st_12_29 {l0 l2 l3 l4 : Value} {d : Nat} {t : List Value} {g : mm_M} {r : mm_R} {x : Int32} : mm_Rn pg_G d 12 29 [l0, .int x, l2, l3, l4] (t) g r ↔ mm_Rn pg_G d 12 30 [l0, .int x, l2, l3, l4] (.int x :: t) g r := rn_iload_n tb_12_29 rfl r
theorem tb_12_30 : mm_tb pg_G 12 30 = some (.iload_n 2, 0, 0, 0) := rfl
theorem st_12_30 {l0 l1 l3 l4 : Value} {d : Nat} {t : List Value} {g : mm_M} {r : mm_R} {x : Int32} : mm_Rn pg_G d 12 30 [l0, l1, .int x, l3, l4] (t) g r ↔ mm_Rn pg_G d 12 31 [l0, l1, .int x, l3, l4] (.int x :: t) g r := rn_iload_n tb_12_30 rfl r
theorem tb_12_31 : mm_tb pg_G 12 31 = some (.iload_n 3, 0, 0, 0) := rfl
theorem st_12_31 {l0 l1 l2 l4 : Value} {d : Nat} {t : List Value} {g : mm_M} {r : mm_R} {x : Int32} : mm_Rn pg_G d 12 31 [l0, l1, l2, .int x, l4] (t) g r ↔ mm_Rn pg_G d 12 32 [l0, l1, l2, .int x, l4] (.int x :: t) g r := rn_iload_n tb_12_31 rfl r
theorem tb_12_32 : mm_tb pg_G 12 32 = some (.invokevirtual 49, 1, 4, 182) := rfl
theorem st_12_32 {d c s c' s' : Nat} {ls t : List Value} {I J : sp_I} {r : mm_R} {a0 a1 a2 : Int32} {y : Nat} {v : Int32} (hl : t.length ≤ 4) (hT : sp_T I y = some (4, 3)) (hq : mm_Rn pg_G d 1 0 [.ref y, .int a0, .int a1, .int a2, .retAddr 0, .retAddr 0, .retAddr 0] [] (sp_me I 0 0) (some (.int v), sp_me J c' s')) : mm_Rn pg_G (d + 1) 12 32 ls (.int a2 :: .int a1 :: .int a0 :: .ref y :: t) (sp_me I c s) r ↔ mm_Rn pg_G (d + 1) 12 35 ls (.int v :: t) (sp_me J (c + c') (s + s')) r := rn_virt (g := sp_me I c s) (st := .int a2 :: .int a1 :: .int a0 :: .ref y :: t) tb_12_32 (decide_eq_true hT) ⟨Nat.le_add_left _ t.length, hl, rfl⟩ hq r
theorem tb_12_35 : mm_tb pg_G 12 35 = some (.ifCond .ne 5, 40, 0, 0) := rfl
theorem st_12_35 {d : Nat} {ls t : List Value} {g : mm_M} {r : mm_R} {x : Int32} : mm_Rn pg_G d 12 35 ls (.int x :: t) g r ↔ if x = 0 then mm_Rn pg_G d 12 38 ls (t) g r else mm_Rn pg_G d 12 40 ls (t) g r := rn_if_ne tb_12_35 r
theorem tb_12_38 : mm_tb pg_G 12 38 = some (.iconst 0, 0, 0, 0) := rfl
theorem st_12_38 {d : Nat} {ls t : List Value} {g : mm_M} {r : mm_R} : mm_Rn pg_G d 12 38 ls (t) g r ↔ mm_Rn pg_G d 12 39 ls (io_v 0 :: t) g r := rn_iconst tb_12_38 r
theorem tb_12_39 : mm_tb pg_G 12 39 = some (.ireturn, 0, 0, 0) := rfl
theorem st_12_39 {d : Nat} {ls : List Value} {g : mm_M} {r : mm_R} {x : Int32} (hb : x = 0 ∨ x = 1) : mm_Rn pg_G d 12 39 ls [.int x] g r ↔ r = (some (.int x), g) := rn_ireturn_iff tb_12_39 (Or.inr ⟨rfl, hb⟩) r
theorem tb_12_40 : mm_tb pg_G 12 40 = some (.iinc 4 1, 0, 0, 0) := rfl
theorem st_12_40 {l0 l1 l2 l3 : Value} {d : Nat} {t : List Value} {g : mm_M} {r : mm_R} {x : Int32} (hc : mm_c1 l3 = true) : mm_Rn pg_G d 12 40 [l0, l1, l2, l3, .int x] (t) g r ↔ mm_Rn pg_G d 12 43 [l0, l1, l2, l3, .int (x + Int32.ofInt 1)] (t) g r := rn_iinc tb_12_40 rfl (mm_so_of (ls := [l0, l1, l2, l3, .int x]) (v := l3) (Nat.le_of_ble_eq_true rfl) rfl hc) r
theorem tb_12_43 : mm_tb pg_G 12 43 = some (.goto (-30), 13, 0, 0) := rfl
theorem st_12_43 {d : Nat} {ls t : List Value} {g : mm_M} {r : mm_R} : mm_Rn pg_G d 12 43 ls (t) g r ↔ mm_Rn pg_G d 12 13 ls (t) g r := rn_goto tb_12_43 r
theorem tb_12_46 : mm_tb pg_G 12 46 = some (.iconst 1, 0, 0, 0) := rfl
theorem st_12_46 {d : Nat} {ls t : List Value} {g : mm_M} {r : mm_R} : mm_Rn pg_G d 12 46 ls (t) g r ↔ mm_Rn pg_G d 12 47 ls (io_v 1 :: t) g r := rn_iconst tb_12_46 r
theorem tb_12_47 : mm_tb pg_G 12 47 = some (.ireturn, 0, 0, 0) := rfl
theorem st_12_47 {d : Nat} {ls : List Value} {g : mm_M} {r : mm_R} {x : Int32} (hb : x = 0 ∨ x = 1) : mm_Rn pg_G d 12 47 ls [.int x] g r ↔ r = (some (.int x), g) := rn_ireturn_iff tb_12_47 (Or.inr ⟨rfl, hb⟩) r
theorem tb_13_0 : mm_tb pg_G 13 0 = some (.aload_n 0, 0, 0, 0) := rfl
theorem st_13_0 {l1 l2 l3 : Value} {d : Nat} {t : List Value} {g : mm_M} {r : mm_R} {x : Nat} : mm_Rn pg_G d 13 0 [.ref x, l1, l2, l3] (t) g r ↔ mm_Rn pg_G d 13 1 [.ref x, l1, l2, l3] (.ref x :: t) g r := rn_aload_n tb_13_0 rfl r
theorem tb_13_1 : mm_tb pg_G 13 1 = some (.getfield 11, 3, 3, 147) := rfl
theorem st_13_1 {d : Nat} {ls t : List Value} {g : mm_M} {r : mm_R} {x : Nat} (hT : g.1 x = some (3, 10)) : mm_Rn pg_G d 13 1 ls (.ref x :: t) g r ↔ mm_Rn pg_G d 13 4 ls (g.2.1 x 3 :: t) g r := rn_getfield tb_13_1 hT r
theorem tb_13_4 : mm_tb pg_G 13 4 = some (.aload_n 0, 0, 0, 0) := rfl
theorem st_13_4 {l1 l2 l3 : Value} {d : Nat} {t : List Value} {g : mm_M} {r : mm_R} {x : Nat} : mm_Rn pg_G d 13 4 [.ref x, l1, l2, l3] (t) g r ↔ mm_Rn pg_G d 13 5 [.ref x, l1, l2, l3] (.ref x :: t) g r := rn_aload_n tb_13_4 rfl r
theorem tb_13_5 : mm_tb pg_G 13 5 = some (.getfield 24, 3, 5, 150) := rfl
theorem st_13_5 {d : Nat} {ls t : List Value} {g : mm_M} {r : mm_R} {x : Nat} (hT : g.1 x = some (3, 10)) : mm_Rn pg_G d 13 5 ls (.ref x :: t) g r ↔ mm_Rn pg_G d 13 8 ls (g.2.1 x 5 :: t) g r := rn_getfield tb_13_5 hT r
theorem tb_13_8 : mm_tb pg_G 13 8 = some (.new 9, 4, 0, 118) := rfl
theorem st_13_8 {d : Nat} {ls t : List Value} {g : mm_M} {r : mm_R} {x : Nat} (hx : mm_pk pg_G 13 8 ls g.2.1 = x) (hT : g.1 x = none) : mm_Rn pg_G d 13 8 ls (t) g r ↔ mm_Rn pg_G d 13 11 ls (.ref x :: t) (mm_al g x 4 3 fun k => defaultValue (mm_ft pg_G 4 k)) r := rn_new tb_13_8 hx hT r
theorem tb_13_11 : mm_tb pg_G 13 11 = some (.dup, 0, 0, 0) := rfl
theorem st_13_11 {d : Nat} {ls t : List Value} {g : mm_M} {r : mm_R} {v : Value} (hc : mm_c1 v = true) : mm_Rn pg_G d 13 11 ls (v :: t) g r ↔ mm_Rn pg_G d 13 12 ls (v :: v :: t) g r := rn_dup tb_13_11 hc r
theorem tb_13_12 : mm_tb pg_G 13 12 = some (.iload_n 1, 0, 0, 0) := rfl
theorem st_13_12 {l0 l2 l3 : Value} {d : Nat} {t : List Value} {g : mm_M} {r : mm_R} {x : Int32} : mm_Rn pg_G d 13 12 [l0, .int x, l2, l3] (t) g r ↔ mm_Rn pg_G d 13 13 [l0, .int x, l2, l3] (.int x :: t) g r := rn_iload_n tb_13_12 rfl r
theorem tb_13_13 : mm_tb pg_G 13 13 = some (.iload_n 2, 0, 0, 0) := rfl
theorem st_13_13 {l0 l1 l3 : Value} {d : Nat} {t : List Value} {g : mm_M} {r : mm_R} {x : Int32} : mm_Rn pg_G d 13 13 [l0, l1, .int x, l3] (t) g r ↔ mm_Rn pg_G d 13 14 [l0, l1, .int x, l3] (.int x :: t) g r := rn_iload_n tb_13_13 rfl r
theorem tb_13_14 : mm_tb pg_G 13 14 = some (.iload_n 3, 0, 0, 0) := rfl
theorem st_13_14 {l0 l1 l2 : Value} {d : Nat} {t : List Value} {g : mm_M} {r : mm_R} {x : Int32} : mm_Rn pg_G d 13 14 [l0, l1, l2, .int x] (t) g r ↔ mm_Rn pg_G d 13 15 [l0, l1, l2, .int x] (.int x :: t) g r := rn_iload_n tb_13_14 rfl r
theorem tb_13_15 : mm_tb pg_G 13 15 = some (.invokespecial 53, 0, 4, 191) := rfl
theorem st_13_15 {d c s c' s' : Nat} {ls t : List Value} {I J : sp_I} {r : mm_R} {a0 a1 a2 : Int32} {y : Nat} (hl : t.length ≤ 4) (hq : mm_Rn pg_G d 0 0 [.ref y, .int a0, .int a1, .int a2] [] (sp_me I 0 0) (none, sp_me J c' s')) : mm_Rn pg_G (d + 1) 13 15 ls (.int a2 :: .int a1 :: .int a0 :: .ref y :: t) (sp_me I c s) r ↔ mm_Rn pg_G (d + 1) 13 18 ls (t) (sp_me J (c + c') (s + s')) r := rn_spec (g := sp_me I c s) (st := .int a2 :: .int a1 :: .int a0 :: .ref y :: t) tb_13_15 (by decide) rfl ⟨Nat.le_add_left _ t.length, hl, rfl⟩ hq r
theorem tb_13_18 : mm_tb pg_G 13 18 = some (.aastore, 103, 4, 0) := rfl
theorem st_13_18 {d : Nat} {ls t : List Value} {g : mm_M} {r : mm_R} {x v : Nat} {j : Int32} (hc : mm_in (g.1 x) 103 103 j = true) (hv : g.1 v = some (4, 3)) : mm_Rn pg_G d 13 18 ls (.ref v :: .int j :: .ref x :: t) g r ↔ mm_Rn pg_G d 13 19 ls (t) (mm_wr g x j.toNatClampNeg (.ref v)) r := rn_aastore tb_13_18 hc hv r
theorem tb_13_19 : mm_tb pg_G 13 19 = some (.aload_n 0, 0, 0, 0) := rfl
theorem st_13_19 {l1 l2 l3 : Value} {d : Nat} {t : List Value} {g : mm_M} {r : mm_R} {x : Nat} : mm_Rn pg_G d 13 19 [.ref x, l1, l2, l3] (t) g r ↔ mm_Rn pg_G d 13 20 [.ref x, l1, l2, l3] (.ref x :: t) g r := rn_aload_n tb_13_19 rfl r
theorem tb_13_20 : mm_tb pg_G 13 20 = some (.dup, 0, 0, 0) := rfl
theorem st_13_20 {d : Nat} {ls t : List Value} {g : mm_M} {r : mm_R} {v : Value} (hc : mm_c1 v = true) : mm_Rn pg_G d 13 20 ls (v :: t) g r ↔ mm_Rn pg_G d 13 21 ls (v :: v :: t) g r := rn_dup tb_13_20 hc r
theorem tb_13_21 : mm_tb pg_G 13 21 = some (.getfield 24, 3, 5, 150) := rfl
theorem st_13_21 {d : Nat} {ls t : List Value} {g : mm_M} {r : mm_R} {x : Nat} (hT : g.1 x = some (3, 10)) : mm_Rn pg_G d 13 21 ls (.ref x :: t) g r ↔ mm_Rn pg_G d 13 24 ls (g.2.1 x 5 :: t) g r := rn_getfield tb_13_21 hT r
theorem tb_13_24 : mm_tb pg_G 13 24 = some (.iconst 1, 0, 0, 0) := rfl
theorem st_13_24 {d : Nat} {ls t : List Value} {g : mm_M} {r : mm_R} : mm_Rn pg_G d 13 24 ls (t) g r ↔ mm_Rn pg_G d 13 25 ls (io_v 1 :: t) g r := rn_iconst tb_13_24 r
theorem tb_13_25 : mm_tb pg_G 13 25 = some (.iadd, 0, 0, 0) := rfl
theorem st_13_25 {d : Nat} {ls t : List Value} {g : mm_M} {r : mm_R} {x y : Int32} : mm_Rn pg_G d 13 25 ls (.int y :: .int x :: t) g r ↔ mm_Rn pg_G d 13 26 ls (.int (x + y) :: t) g r := rn_iadd tb_13_25 r
theorem tb_13_26 : mm_tb pg_G 13 26 = some (.putfield 24, 3, 5, 150) := rfl
theorem st_13_26 {d : Nat} {ls t : List Value} {g : mm_M} {r : mm_R} {x : Nat} {v : Int32} (hT : g.1 x = some (3, 10)) : mm_Rn pg_G d 13 26 ls (.int v :: .ref x :: t) g r ↔ mm_Rn pg_G d 13 29 ls (t) (mm_wr g x 5 (.int v)) r := rn_putfield tb_13_26 hT rfl r
theorem tb_13_29 : mm_tb pg_G 13 29 = some (.return_, 0, 0, 0) := rfl
theorem st_13_29 {d : Nat} {ls : List Value} {g : mm_M} {r : mm_R} : mm_Rn pg_G d 13 29 ls [] g r ↔ r = (none, g) := rn_return_iff tb_13_29 rfl r
theorem tb_14_0 : mm_tb pg_G 14 0 = some (.iconst 0, 0, 0, 0) := rfl
theorem st_14_0 {d : Nat} {ls t : List Value} {g : mm_M} {r : mm_R} : mm_Rn pg_G d 14 0 ls (t) g r ↔ mm_Rn pg_G d 14 1 ls (io_v 0 :: t) g r := rn_iconst tb_14_0 r
theorem tb_14_1 : mm_tb pg_G 14 1 = some (.istore_n 3, 0, 0, 0) := rfl
theorem st_14_1 {l0 l1 l2 l3 l4 : Value} {d : Nat} {t : List Value} {g : mm_M} {r : mm_R} {x : Int32} (hc : mm_c1 l2 = true) : mm_Rn pg_G d 14 1 [l0, l1, l2, l3, l4] (.int x :: t) g r ↔ mm_Rn pg_G d 14 2 [l0, l1, l2, .int x, l4] (t) g r := rn_istore_n tb_14_1 (mm_so_of (ls := [l0, l1, l2, l3, l4]) (v := l2) (Nat.le_of_ble_eq_true rfl) rfl hc) r
theorem tb_14_2 : mm_tb pg_G 14 2 = some (.iconst 0, 0, 0, 0) := rfl
theorem st_14_2 {d : Nat} {ls t : List Value} {g : mm_M} {r : mm_R} : mm_Rn pg_G d 14 2 ls (t) g r ↔ mm_Rn pg_G d 14 3 ls (io_v 0 :: t) g r := rn_iconst tb_14_2 r
theorem tb_14_3 : mm_tb pg_G 14 3 = some (.istore 4, 0, 0, 0) := rfl
theorem st_14_3 {l0 l1 l2 l3 l4 : Value} {d : Nat} {t : List Value} {g : mm_M} {r : mm_R} {x : Int32} (hc : mm_c1 l3 = true) : mm_Rn pg_G d 14 3 [l0, l1, l2, l3, l4] (.int x :: t) g r ↔ mm_Rn pg_G d 14 5 [l0, l1, l2, l3, .int x] (t) g r := rn_istore tb_14_3 (mm_so_of (ls := [l0, l1, l2, l3, l4]) (v := l3) (Nat.le_of_ble_eq_true rfl) rfl hc) r
theorem tb_14_5 : mm_tb pg_G 14 5 = some (.iload 4, 0, 0, 0) := rfl
theorem st_14_5 {l0 l1 l2 l3 : Value} {d : Nat} {t : List Value} {g : mm_M} {r : mm_R} {x : Int32} : mm_Rn pg_G d 14 5 [l0, l1, l2, l3, .int x] (t) g r ↔ mm_Rn pg_G d 14 7 [l0, l1, l2, l3, .int x] (.int x :: t) g r := rn_iload tb_14_5 rfl r
theorem tb_14_7 : mm_tb pg_G 14 7 = some (.aload_n 0, 0, 0, 0) := rfl
theorem st_14_7 {l1 l2 l3 l4 : Value} {d : Nat} {t : List Value} {g : mm_M} {r : mm_R} {x : Nat} : mm_Rn pg_G d 14 7 [.ref x, l1, l2, l3, l4] (t) g r ↔ mm_Rn pg_G d 14 8 [.ref x, l1, l2, l3, l4] (.ref x :: t) g r := rn_aload_n tb_14_7 rfl r
theorem tb_14_8 : mm_tb pg_G 14 8 = some (.getfield 24, 3, 5, 150) := rfl
theorem st_14_8 {d : Nat} {ls t : List Value} {g : mm_M} {r : mm_R} {x : Nat} (hT : g.1 x = some (3, 10)) : mm_Rn pg_G d 14 8 ls (.ref x :: t) g r ↔ mm_Rn pg_G d 14 11 ls (g.2.1 x 5 :: t) g r := rn_getfield tb_14_8 hT r
theorem tb_14_11 : mm_tb pg_G 14 11 = some (.if_icmp .ge 53, 64, 0, 0) := rfl
theorem st_14_11 {d : Nat} {ls t : List Value} {g : mm_M} {r : mm_R} {x y : Int32} : mm_Rn pg_G d 14 11 ls (.int y :: .int x :: t) g r ↔ if y ≤ x then mm_Rn pg_G d 14 64 ls (t) g r else mm_Rn pg_G d 14 14 ls (t) g r := rn_icmp_ge tb_14_11 r
theorem tb_14_14 : mm_tb pg_G 14 14 = some (.aload_n 1, 0, 0, 0) := rfl
theorem st_14_14 {l0 l2 l3 l4 : Value} {d : Nat} {t : List Value} {g : mm_M} {r : mm_R} {x : Nat} : mm_Rn pg_G d 14 14 [l0, .ref x, l2, l3, l4] (t) g r ↔ mm_Rn pg_G d 14 15 [l0, .ref x, l2, l3, l4] (.ref x :: t) g r := rn_aload_n tb_14_14 rfl r
theorem tb_14_15 : mm_tb pg_G 14 15 = some (.aload_n 0, 0, 0, 0) := rfl
theorem st_14_15 {l1 l2 l3 l4 : Value} {d : Nat} {t : List Value} {g : mm_M} {r : mm_R} {x : Nat} : mm_Rn pg_G d 14 15 [.ref x, l1, l2, l3, l4] (t) g r ↔ mm_Rn pg_G d 14 16 [.ref x, l1, l2, l3, l4] (.ref x :: t) g r := rn_aload_n tb_14_15 rfl r
theorem tb_14_16 : mm_tb pg_G 14 16 = some (.getfield 11, 3, 3, 147) := rfl
theorem st_14_16 {d : Nat} {ls t : List Value} {g : mm_M} {r : mm_R} {x : Nat} (hT : g.1 x = some (3, 10)) : mm_Rn pg_G d 14 16 ls (.ref x :: t) g r ↔ mm_Rn pg_G d 14 19 ls (g.2.1 x 3 :: t) g r := rn_getfield tb_14_16 hT r
theorem tb_14_19 : mm_tb pg_G 14 19 = some (.iload 4, 0, 0, 0) := rfl
theorem st_14_19 {l0 l1 l2 l3 : Value} {d : Nat} {t : List Value} {g : mm_M} {r : mm_R} {x : Int32} : mm_Rn pg_G d 14 19 [l0, l1, l2, l3, .int x] (t) g r ↔ mm_Rn pg_G d 14 21 [l0, l1, l2, l3, .int x] (.int x :: t) g r := rn_iload tb_14_19 rfl r
theorem tb_14_21 : mm_tb pg_G 14 21 = some (.aaload, 0, 0, 0) := rfl
theorem st_14_21 {d : Nat} {ls t : List Value} {g : mm_M} {r : mm_R} {x : Nat} {j : Int32} (hc : mm_in (g.1 x) 102 103 j = true) : mm_Rn pg_G d 14 21 ls (.int j :: .ref x :: t) g r ↔ mm_Rn pg_G d 14 22 ls (g.2.1 x j.toNatClampNeg :: t) g r := rn_aaload tb_14_21 hc r
theorem tb_14_22 : mm_tb pg_G 14 22 = some (.getfield 56, 4, 0, 196) := rfl
theorem st_14_22 {d : Nat} {ls t : List Value} {g : mm_M} {r : mm_R} {x : Nat} (hT : g.1 x = some (4, 3)) : mm_Rn pg_G d 14 22 ls (.ref x :: t) g r ↔ mm_Rn pg_G d 14 25 ls (g.2.1 x 0 :: t) g r := rn_getfield tb_14_22 hT r
theorem tb_14_25 : mm_tb pg_G 14 25 = some (.iaload, 0, 0, 0) := rfl
theorem st_14_25 {d : Nat} {ls t : List Value} {g : mm_M} {r : mm_R} {x : Nat} {j : Int32} (hc : mm_in (g.1 x) 100 101 j = true) : mm_Rn pg_G d 14 25 ls (.int j :: .ref x :: t) g r ↔ mm_Rn pg_G d 14 26 ls (g.2.1 x j.toNatClampNeg :: t) g r := rn_iaload tb_14_25 hc r
theorem tb_14_26 : mm_tb pg_G 14 26 = some (.iload_n 2, 0, 0, 0) := rfl
theorem st_14_26 {l0 l1 l3 l4 : Value} {d : Nat} {t : List Value} {g : mm_M} {r : mm_R} {x : Int32} : mm_Rn pg_G d 14 26 [l0, l1, .int x, l3, l4] (t) g r ↔ mm_Rn pg_G d 14 27 [l0, l1, .int x, l3, l4] (.int x :: t) g r := rn_iload_n tb_14_26 rfl r
theorem tb_14_27 : mm_tb pg_G 14 27 = some (.if_icmp .lt 31, 58, 0, 0) := rfl
theorem st_14_27 {d : Nat} {ls t : List Value} {g : mm_M} {r : mm_R} {x y : Int32} : mm_Rn pg_G d 14 27 ls (.int y :: .int x :: t) g r ↔ if x < y then mm_Rn pg_G d 14 58 ls (t) g r else mm_Rn pg_G d 14 30 ls (t) g r := rn_icmp_lt tb_14_27 r
theorem tb_14_30 : mm_tb pg_G 14 30 = some (.iload_n 3, 0, 0, 0) := rfl
theorem st_14_30 {l0 l1 l2 l4 : Value} {d : Nat} {t : List Value} {g : mm_M} {r : mm_R} {x : Int32} : mm_Rn pg_G d 14 30 [l0, l1, l2, .int x, l4] (t) g r ↔ mm_Rn pg_G d 14 31 [l0, l1, l2, .int x, l4] (.int x :: t) g r := rn_iload_n tb_14_30 rfl r
theorem tb_14_31 : mm_tb pg_G 14 31 = some (.aload_n 0, 0, 0, 0) := rfl
theorem st_14_31 {l1 l2 l3 l4 : Value} {d : Nat} {t : List Value} {g : mm_M} {r : mm_R} {x : Nat} : mm_Rn pg_G d 14 31 [.ref x, l1, l2, l3, l4] (t) g r ↔ mm_Rn pg_G d 14 32 [.ref x, l1, l2, l3, l4] (.ref x :: t) g r := rn_aload_n tb_14_31 rfl r
theorem tb_14_32 : mm_tb pg_G 14 32 = some (.getfield 11, 3, 3, 147) := rfl
theorem st_14_32 {d : Nat} {ls t : List Value} {g : mm_M} {r : mm_R} {x : Nat} (hT : g.1 x = some (3, 10)) : mm_Rn pg_G d 14 32 ls (.ref x :: t) g r ↔ mm_Rn pg_G d 14 35 ls (g.2.1 x 3 :: t) g r := rn_getfield tb_14_32 hT r
theorem tb_14_35 : mm_tb pg_G 14 35 = some (.iload 4, 0, 0, 0) := rfl
theorem st_14_35 {l0 l1 l2 l3 : Value} {d : Nat} {t : List Value} {g : mm_M} {r : mm_R} {x : Int32} : mm_Rn pg_G d 14 35 [l0, l1, l2, l3, .int x] (t) g r ↔ mm_Rn pg_G d 14 37 [l0, l1, l2, l3, .int x] (.int x :: t) g r := rn_iload tb_14_35 rfl r
theorem tb_14_37 : mm_tb pg_G 14 37 = some (.aaload, 0, 0, 0) := rfl
theorem st_14_37 {d : Nat} {ls t : List Value} {g : mm_M} {r : mm_R} {x : Nat} {j : Int32} (hc : mm_in (g.1 x) 102 103 j = true) : mm_Rn pg_G d 14 37 ls (.int j :: .ref x :: t) g r ↔ mm_Rn pg_G d 14 38 ls (g.2.1 x j.toNatClampNeg :: t) g r := rn_aaload tb_14_37 hc r
theorem tb_14_38 : mm_tb pg_G 14 38 = some (.getfield 59, 4, 2, 200) := rfl
theorem st_14_38 {d : Nat} {ls t : List Value} {g : mm_M} {r : mm_R} {x : Nat} (hT : g.1 x = some (4, 3)) : mm_Rn pg_G d 14 38 ls (.ref x :: t) g r ↔ mm_Rn pg_G d 14 41 ls (g.2.1 x 2 :: t) g r := rn_getfield tb_14_38 hT r
theorem tb_14_41 : mm_tb pg_G 14 41 = some (.aload_n 0, 0, 0, 0) := rfl
theorem st_14_41 {l1 l2 l3 l4 : Value} {d : Nat} {t : List Value} {g : mm_M} {r : mm_R} {x : Nat} : mm_Rn pg_G d 14 41 [.ref x, l1, l2, l3, l4] (t) g r ↔ mm_Rn pg_G d 14 42 [.ref x, l1, l2, l3, l4] (.ref x :: t) g r := rn_aload_n tb_14_41 rfl r
theorem tb_14_42 : mm_tb pg_G 14 42 = some (.getfield 11, 3, 3, 147) := rfl
theorem st_14_42 {d : Nat} {ls t : List Value} {g : mm_M} {r : mm_R} {x : Nat} (hT : g.1 x = some (3, 10)) : mm_Rn pg_G d 14 42 ls (.ref x :: t) g r ↔ mm_Rn pg_G d 14 45 ls (g.2.1 x 3 :: t) g r := rn_getfield tb_14_42 hT r
theorem tb_14_45 : mm_tb pg_G 14 45 = some (.iload 4, 0, 0, 0) := rfl
theorem st_14_45 {l0 l1 l2 l3 : Value} {d : Nat} {t : List Value} {g : mm_M} {r : mm_R} {x : Int32} : mm_Rn pg_G d 14 45 [l0, l1, l2, l3, .int x] (t) g r ↔ mm_Rn pg_G d 14 47 [l0, l1, l2, l3, .int x] (.int x :: t) g r := rn_iload tb_14_45 rfl r
theorem tb_14_47 : mm_tb pg_G 14 47 = some (.aaload, 0, 0, 0) := rfl
theorem st_14_47 {d : Nat} {ls t : List Value} {g : mm_M} {r : mm_R} {x : Nat} {j : Int32} (hc : mm_in (g.1 x) 102 103 j = true) : mm_Rn pg_G d 14 47 ls (.int j :: .ref x :: t) g r ↔ mm_Rn pg_G d 14 48 ls (g.2.1 x j.toNatClampNeg :: t) g r := rn_aaload tb_14_47 hc r
theorem tb_14_48 : mm_tb pg_G 14 48 = some (.getfield 62, 4, 1, 198) := rfl
theorem st_14_48 {d : Nat} {ls t : List Value} {g : mm_M} {r : mm_R} {x : Nat} (hT : g.1 x = some (4, 3)) : mm_Rn pg_G d 14 48 ls (.ref x :: t) g r ↔ mm_Rn pg_G d 14 51 ls (g.2.1 x 1 :: t) g r := rn_getfield tb_14_48 hT r
theorem tb_14_51 : mm_tb pg_G 14 51 = some (.isub, 0, 0, 0) := rfl
theorem st_14_51 {d : Nat} {ls t : List Value} {g : mm_M} {r : mm_R} {x y : Int32} : mm_Rn pg_G d 14 51 ls (.int y :: .int x :: t) g r ↔ mm_Rn pg_G d 14 52 ls (.int (x - y) :: t) g r := rn_isub tb_14_51 r
theorem tb_14_52 : mm_tb pg_G 14 52 = some (.iconst 1, 0, 0, 0) := rfl
theorem st_14_52 {d : Nat} {ls t : List Value} {g : mm_M} {r : mm_R} : mm_Rn pg_G d 14 52 ls (t) g r ↔ mm_Rn pg_G d 14 53 ls (io_v 1 :: t) g r := rn_iconst tb_14_52 r
theorem tb_14_53 : mm_tb pg_G 14 53 = some (.isub, 0, 0, 0) := rfl
theorem st_14_53 {d : Nat} {ls t : List Value} {g : mm_M} {r : mm_R} {x y : Int32} : mm_Rn pg_G d 14 53 ls (.int y :: .int x :: t) g r ↔ mm_Rn pg_G d 14 54 ls (.int (x - y) :: t) g r := rn_isub tb_14_53 r
theorem tb_14_54 : mm_tb pg_G 14 54 = some (.invokestatic 65, 999, 0, 237) := rfl
theorem st_14_54 {d : Nat} {ls t : List Value} {g : mm_M} {r : mm_R} {x y : Int32} (hl : t.length ≤ 4) : mm_Rn pg_G (d + 1) 14 54 ls (.int y :: .int x :: t) g r ↔ mm_Rn pg_G (d + 1) 14 57 ls (.int (if x < y then y else x) :: t) g r := rn_max tb_14_54 hl r
theorem tb_14_57 : mm_tb pg_G 14 57 = some (.istore_n 3, 0, 0, 0) := rfl
theorem st_14_57 {l0 l1 l2 l3 l4 : Value} {d : Nat} {t : List Value} {g : mm_M} {r : mm_R} {x : Int32} (hc : mm_c1 l2 = true) : mm_Rn pg_G d 14 57 [l0, l1, l2, l3, l4] (.int x :: t) g r ↔ mm_Rn pg_G d 14 58 [l0, l1, l2, .int x, l4] (t) g r := rn_istore_n tb_14_57 (mm_so_of (ls := [l0, l1, l2, l3, l4]) (v := l2) (Nat.le_of_ble_eq_true rfl) rfl hc) r
theorem tb_14_58 : mm_tb pg_G 14 58 = some (.iinc 4 1, 0, 0, 0) := rfl
theorem st_14_58 {l0 l1 l2 l3 : Value} {d : Nat} {t : List Value} {g : mm_M} {r : mm_R} {x : Int32} (hc : mm_c1 l3 = true) : mm_Rn pg_G d 14 58 [l0, l1, l2, l3, .int x] (t) g r ↔ mm_Rn pg_G d 14 61 [l0, l1, l2, l3, .int (x + Int32.ofInt 1)] (t) g r := rn_iinc tb_14_58 rfl (mm_so_of (ls := [l0, l1, l2, l3, .int x]) (v := l3) (Nat.le_of_ble_eq_true rfl) rfl hc) r
theorem tb_14_61 : mm_tb pg_G 14 61 = some (.goto (-56), 5, 0, 0) := rfl
theorem st_14_61 {d : Nat} {ls t : List Value} {g : mm_M} {r : mm_R} : mm_Rn pg_G d 14 61 ls (t) g r ↔ mm_Rn pg_G d 14 5 ls (t) g r := rn_goto tb_14_61 r
theorem tb_14_64 : mm_tb pg_G 14 64 = some (.iload_n 3, 0, 0, 0) := rfl
theorem st_14_64 {l0 l1 l2 l4 : Value} {d : Nat} {t : List Value} {g : mm_M} {r : mm_R} {x : Int32} : mm_Rn pg_G d 14 64 [l0, l1, l2, .int x, l4] (t) g r ↔ mm_Rn pg_G d 14 65 [l0, l1, l2, .int x, l4] (.int x :: t) g r := rn_iload_n tb_14_64 rfl r
theorem tb_14_65 : mm_tb pg_G 14 65 = some (.ireturn, 0, 0, 0) := rfl
theorem st_14_65 {d : Nat} {ls : List Value} {g : mm_M} {r : mm_R} {x : Int32} : mm_Rn pg_G d 14 65 ls [.int x] g r ↔ r = (some (.int x), g) := rn_ireturn_iff tb_14_65 (Or.inl rfl) r
theorem tb_15_0 : mm_tb pg_G 15 0 = some (.aload_n 0, 0, 0, 0) := rfl
theorem st_15_0 {l1 : Value} {d : Nat} {t : List Value} {g : mm_M} {r : mm_R} {x : Nat} : mm_Rn pg_G d 15 0 [.ref x, l1] (t) g r ↔ mm_Rn pg_G d 15 1 [.ref x, l1] (.ref x :: t) g r := rn_aload_n tb_15_0 rfl r
theorem tb_15_1 : mm_tb pg_G 15 1 = some (.getfield 20, 3, 4, 148) := rfl
theorem st_15_1 {d : Nat} {ls t : List Value} {g : mm_M} {r : mm_R} {x : Nat} (hT : g.1 x = some (3, 10)) : mm_Rn pg_G d 15 1 ls (.ref x :: t) g r ↔ mm_Rn pg_G d 15 4 ls (g.2.1 x 4 :: t) g r := rn_getfield tb_15_1 hT r
theorem tb_15_4 : mm_tb pg_G 15 4 = some (.invokevirtual 71, 5, 1, 311) := rfl
theorem st_15_4 {d c s c' s' : Nat} {ls t : List Value} {I J : sp_I} {r : mm_R} {y : Nat} {v : Int32} (hl : t.length ≤ 4) (hT : sp_T I y = some (5, 7)) (hq : mm_Rn pg_G d 5 0 [.ref y] [] (sp_me I 0 0) (some (.int v), sp_me J c' s')) : mm_Rn pg_G (d + 1) 15 4 ls (.ref y :: t) (sp_me I c s) r ↔ mm_Rn pg_G (d + 1) 15 7 ls (.int v :: t) (sp_me J (c + c') (s + s')) r := rn_virt (g := sp_me I c s) (st := .ref y :: t) tb_15_4 (decide_eq_true hT) ⟨Nat.le_add_left _ t.length, hl, rfl⟩ hq r
theorem tb_15_7 : mm_tb pg_G 15 7 = some (.ifCond .eq 21, 28, 0, 0) := rfl
theorem st_15_7 {d : Nat} {ls t : List Value} {g : mm_M} {r : mm_R} {x : Int32} : mm_Rn pg_G d 15 7 ls (.int x :: t) g r ↔ if x = 0 then mm_Rn pg_G d 15 28 ls (t) g r else mm_Rn pg_G d 15 10 ls (t) g r := rn_if_eq tb_15_7 r
theorem tb_15_10 : mm_tb pg_G 15 10 = some (.aload_n 1, 0, 0, 0) := rfl
theorem st_15_10 {l0 : Value} {d : Nat} {t : List Value} {g : mm_M} {r : mm_R} {x : Nat} : mm_Rn pg_G d 15 10 [l0, .ref x] (t) g r ↔ mm_Rn pg_G d 15 11 [l0, .ref x] (.ref x :: t) g r := rn_aload_n tb_15_10 rfl r
theorem tb_15_11 : mm_tb pg_G 15 11 = some (.aload_n 0, 0, 0, 0) := rfl
theorem st_15_11 {l1 : Value} {d : Nat} {t : List Value} {g : mm_M} {r : mm_R} {x : Nat} : mm_Rn pg_G d 15 11 [.ref x, l1] (t) g r ↔ mm_Rn pg_G d 15 12 [.ref x, l1] (.ref x :: t) g r := rn_aload_n tb_15_11 rfl r
theorem tb_15_12 : mm_tb pg_G 15 12 = some (.getfield 20, 3, 4, 148) := rfl
theorem st_15_12 {d : Nat} {ls t : List Value} {g : mm_M} {r : mm_R} {x : Nat} (hT : g.1 x = some (3, 10)) : mm_Rn pg_G d 15 12 ls (.ref x :: t) g r ↔ mm_Rn pg_G d 15 15 ls (g.2.1 x 4 :: t) g r := rn_getfield tb_15_12 hT r
theorem tb_15_15 : mm_tb pg_G 15 15 = some (.getfield 75, 5, 2, 127) := rfl
theorem st_15_15 {d : Nat} {ls t : List Value} {g : mm_M} {r : mm_R} {x : Nat} (hT : g.1 x = some (5, 7)) : mm_Rn pg_G d 15 15 ls (.ref x :: t) g r ↔ mm_Rn pg_G d 15 18 ls (g.2.1 x 2 :: t) g r := rn_getfield tb_15_15 hT r
theorem tb_15_18 : mm_tb pg_G 15 18 = some (.invokevirtual 78, 2, 2, 312) := rfl
theorem st_15_18 {d c s c' s' : Nat} {ls t : List Value} {I J : sp_I} {r : mm_R} {a0 : Int32} {y : Nat} {v : Int32} (hl : t.length ≤ 4) (hT : sp_T I y = some (4, 3)) (hq : mm_Rn pg_G d 2 0 [.ref y, .int a0] [] (sp_me I 0 0) (some (.int v), sp_me J c' s')) : mm_Rn pg_G (d + 1) 15 18 ls (.int a0 :: .ref y :: t) (sp_me I c s) r ↔ mm_Rn pg_G (d + 1) 15 21 ls (.int v :: t) (sp_me J (c + c') (s + s')) r := rn_virt (g := sp_me I c s) (st := .int a0 :: .ref y :: t) tb_15_18 (decide_eq_true hT) ⟨Nat.le_add_left _ t.length, hl, rfl⟩ hq r
theorem tb_15_21 : mm_tb pg_G 15 21 = some (.ifCond .eq 7, 28, 0, 0) := rfl
theorem st_15_21 {d : Nat} {ls t : List Value} {g : mm_M} {r : mm_R} {x : Int32} : mm_Rn pg_G d 15 21 ls (.int x :: t) g r ↔ if x = 0 then mm_Rn pg_G d 15 28 ls (t) g r else mm_Rn pg_G d 15 24 ls (t) g r := rn_if_eq tb_15_21 r
theorem tb_15_24 : mm_tb pg_G 15 24 = some (.iconst 1, 0, 0, 0) := rfl
theorem st_15_24 {d : Nat} {ls t : List Value} {g : mm_M} {r : mm_R} : mm_Rn pg_G d 15 24 ls (t) g r ↔ mm_Rn pg_G d 15 25 ls (io_v 1 :: t) g r := rn_iconst tb_15_24 r
theorem tb_15_25 : mm_tb pg_G 15 25 = some (.goto 4, 29, 0, 0) := rfl
theorem st_15_25 {d : Nat} {ls t : List Value} {g : mm_M} {r : mm_R} : mm_Rn pg_G d 15 25 ls (t) g r ↔ mm_Rn pg_G d 15 29 ls (t) g r := rn_goto tb_15_25 r
theorem tb_15_28 : mm_tb pg_G 15 28 = some (.iconst 0, 0, 0, 0) := rfl
theorem st_15_28 {d : Nat} {ls t : List Value} {g : mm_M} {r : mm_R} : mm_Rn pg_G d 15 28 ls (t) g r ↔ mm_Rn pg_G d 15 29 ls (io_v 0 :: t) g r := rn_iconst tb_15_28 r
theorem tb_15_29 : mm_tb pg_G 15 29 = some (.ireturn, 0, 0, 0) := rfl
theorem st_15_29 {d : Nat} {ls : List Value} {g : mm_M} {r : mm_R} {x : Int32} (hb : x = 0 ∨ x = 1) : mm_Rn pg_G d 15 29 ls [.int x] g r ↔ r = (some (.int x), g) := rn_ireturn_iff tb_15_29 (Or.inr ⟨rfl, hb⟩) r
theorem tb_16_0 : mm_tb pg_G 16 0 = some (.iconst 0, 0, 0, 0) := rfl
theorem st_16_0 {d : Nat} {ls t : List Value} {g : mm_M} {r : mm_R} : mm_Rn pg_G d 16 0 ls (t) g r ↔ mm_Rn pg_G d 16 1 ls (io_v 0 :: t) g r := rn_iconst tb_16_0 r
theorem tb_16_1 : mm_tb pg_G 16 1 = some (.istore_n 2, 0, 0, 0) := rfl
theorem st_16_1 {l0 l1 l2 : Value} {d : Nat} {t : List Value} {g : mm_M} {r : mm_R} {x : Int32} (hc : mm_c1 l1 = true) : mm_Rn pg_G d 16 1 [l0, l1, l2] (.int x :: t) g r ↔ mm_Rn pg_G d 16 2 [l0, l1, .int x] (t) g r := rn_istore_n tb_16_1 (mm_so_of (ls := [l0, l1, l2]) (v := l1) (Nat.le_of_ble_eq_true rfl) rfl hc) r
theorem tb_16_2 : mm_tb pg_G 16 2 = some (.iload_n 2, 0, 0, 0) := rfl
theorem st_16_2 {l0 l1 : Value} {d : Nat} {t : List Value} {g : mm_M} {r : mm_R} {x : Int32} : mm_Rn pg_G d 16 2 [l0, l1, .int x] (t) g r ↔ mm_Rn pg_G d 16 3 [l0, l1, .int x] (.int x :: t) g r := rn_iload_n tb_16_2 rfl r
theorem tb_16_3 : mm_tb pg_G 16 3 = some (.aload_n 0, 0, 0, 0) := rfl
theorem st_16_3 {l1 l2 : Value} {d : Nat} {t : List Value} {g : mm_M} {r : mm_R} {x : Nat} : mm_Rn pg_G d 16 3 [.ref x, l1, l2] (t) g r ↔ mm_Rn pg_G d 16 4 [.ref x, l1, l2] (.ref x :: t) g r := rn_aload_n tb_16_3 rfl r
theorem tb_16_4 : mm_tb pg_G 16 4 = some (.getfield 24, 3, 5, 150) := rfl
theorem st_16_4 {d : Nat} {ls t : List Value} {g : mm_M} {r : mm_R} {x : Nat} (hT : g.1 x = some (3, 10)) : mm_Rn pg_G d 16 4 ls (.ref x :: t) g r ↔ mm_Rn pg_G d 16 7 ls (g.2.1 x 5 :: t) g r := rn_getfield tb_16_4 hT r
theorem tb_16_7 : mm_tb pg_G 16 7 = some (.if_icmp .ge 37, 44, 0, 0) := rfl
theorem st_16_7 {d : Nat} {ls t : List Value} {g : mm_M} {r : mm_R} {x y : Int32} : mm_Rn pg_G d 16 7 ls (.int y :: .int x :: t) g r ↔ if y ≤ x then mm_Rn pg_G d 16 44 ls (t) g r else mm_Rn pg_G d 16 10 ls (t) g r := rn_icmp_ge tb_16_7 r
theorem tb_16_10 : mm_tb pg_G 16 10 = some (.aload_n 0, 0, 0, 0) := rfl
theorem st_16_10 {l1 l2 : Value} {d : Nat} {t : List Value} {g : mm_M} {r : mm_R} {x : Nat} : mm_Rn pg_G d 16 10 [.ref x, l1, l2] (t) g r ↔ mm_Rn pg_G d 16 11 [.ref x, l1, l2] (.ref x :: t) g r := rn_aload_n tb_16_10 rfl r
theorem tb_16_11 : mm_tb pg_G 16 11 = some (.getfield 11, 3, 3, 147) := rfl
theorem st_16_11 {d : Nat} {ls t : List Value} {g : mm_M} {r : mm_R} {x : Nat} (hT : g.1 x = some (3, 10)) : mm_Rn pg_G d 16 11 ls (.ref x :: t) g r ↔ mm_Rn pg_G d 16 14 ls (g.2.1 x 3 :: t) g r := rn_getfield tb_16_11 hT r
theorem tb_16_14 : mm_tb pg_G 16 14 = some (.iload_n 2, 0, 0, 0) := rfl
theorem st_16_14 {l0 l1 : Value} {d : Nat} {t : List Value} {g : mm_M} {r : mm_R} {x : Int32} : mm_Rn pg_G d 16 14 [l0, l1, .int x] (t) g r ↔ mm_Rn pg_G d 16 15 [l0, l1, .int x] (.int x :: t) g r := rn_iload_n tb_16_14 rfl r
theorem tb_16_15 : mm_tb pg_G 16 15 = some (.aaload, 0, 0, 0) := rfl
theorem st_16_15 {d : Nat} {ls t : List Value} {g : mm_M} {r : mm_R} {x : Nat} {j : Int32} (hc : mm_in (g.1 x) 102 103 j = true) : mm_Rn pg_G d 16 15 ls (.int j :: .ref x :: t) g r ↔ mm_Rn pg_G d 16 16 ls (g.2.1 x j.toNatClampNeg :: t) g r := rn_aaload tb_16_15 hc r
theorem tb_16_16 : mm_tb pg_G 16 16 = some (.getfield 56, 4, 0, 196) := rfl
theorem st_16_16 {d : Nat} {ls t : List Value} {g : mm_M} {r : mm_R} {x : Nat} (hT : g.1 x = some (4, 3)) : mm_Rn pg_G d 16 16 ls (.ref x :: t) g r ↔ mm_Rn pg_G d 16 19 ls (g.2.1 x 0 :: t) g r := rn_getfield tb_16_16 hT r
theorem tb_16_19 : mm_tb pg_G 16 19 = some (.iload_n 1, 0, 0, 0) := rfl
theorem st_16_19 {l0 l2 : Value} {d : Nat} {t : List Value} {g : mm_M} {r : mm_R} {x : Int32} : mm_Rn pg_G d 16 19 [l0, .int x, l2] (t) g r ↔ mm_Rn pg_G d 16 20 [l0, .int x, l2] (.int x :: t) g r := rn_iload_n tb_16_19 rfl r
theorem tb_16_20 : mm_tb pg_G 16 20 = some (.if_icmp .ne 18, 38, 0, 0) := rfl
theorem st_16_20 {d : Nat} {ls t : List Value} {g : mm_M} {r : mm_R} {x y : Int32} : mm_Rn pg_G d 16 20 ls (.int y :: .int x :: t) g r ↔ if x = y then mm_Rn pg_G d 16 23 ls (t) g r else mm_Rn pg_G d 16 38 ls (t) g r := rn_icmp_ne tb_16_20 r
theorem tb_16_23 : mm_tb pg_G 16 23 = some (.aload_n 0, 0, 0, 0) := rfl
theorem st_16_23 {l1 l2 : Value} {d : Nat} {t : List Value} {g : mm_M} {r : mm_R} {x : Nat} : mm_Rn pg_G d 16 23 [.ref x, l1, l2] (t) g r ↔ mm_Rn pg_G d 16 24 [.ref x, l1, l2] (.ref x :: t) g r := rn_aload_n tb_16_23 rfl r
theorem tb_16_24 : mm_tb pg_G 16 24 = some (.aload_n 0, 0, 0, 0) := rfl
theorem st_16_24 {l1 l2 : Value} {d : Nat} {t : List Value} {g : mm_M} {r : mm_R} {x : Nat} : mm_Rn pg_G d 16 24 [.ref x, l1, l2] (t) g r ↔ mm_Rn pg_G d 16 25 [.ref x, l1, l2] (.ref x :: t) g r := rn_aload_n tb_16_24 rfl r
theorem tb_16_25 : mm_tb pg_G 16 25 = some (.getfield 11, 3, 3, 147) := rfl
theorem st_16_25 {d : Nat} {ls t : List Value} {g : mm_M} {r : mm_R} {x : Nat} (hT : g.1 x = some (3, 10)) : mm_Rn pg_G d 16 25 ls (.ref x :: t) g r ↔ mm_Rn pg_G d 16 28 ls (g.2.1 x 3 :: t) g r := rn_getfield tb_16_25 hT r
theorem tb_16_28 : mm_tb pg_G 16 28 = some (.iload_n 2, 0, 0, 0) := rfl
theorem st_16_28 {l0 l1 : Value} {d : Nat} {t : List Value} {g : mm_M} {r : mm_R} {x : Int32} : mm_Rn pg_G d 16 28 [l0, l1, .int x] (t) g r ↔ mm_Rn pg_G d 16 29 [l0, l1, .int x] (.int x :: t) g r := rn_iload_n tb_16_28 rfl r
theorem tb_16_29 : mm_tb pg_G 16 29 = some (.aaload, 0, 0, 0) := rfl
theorem st_16_29 {d : Nat} {ls t : List Value} {g : mm_M} {r : mm_R} {x : Nat} {j : Int32} (hc : mm_in (g.1 x) 102 103 j = true) : mm_Rn pg_G d 16 29 ls (.int j :: .ref x :: t) g r ↔ mm_Rn pg_G d 16 30 ls (g.2.1 x j.toNatClampNeg :: t) g r := rn_aaload tb_16_29 hc r
theorem tb_16_30 : mm_tb pg_G 16 30 = some (.invokevirtual 82, 15, 2, 307) := rfl
theorem st_16_30 {d c s c' s' : Nat} {ls t : List Value} {I J : sp_I} {r : mm_R} {y a0 : Nat} {v : Int32} (hl : t.length ≤ 4) (hT : sp_T I y = some (3, 10)) (hq : mm_Rn pg_G d 15 0 [.ref y, .ref a0] [] (sp_me I 0 0) (some (.int v), sp_me J c' s')) : mm_Rn pg_G (d + 1) 16 30 ls (.ref a0 :: .ref y :: t) (sp_me I c s) r ↔ mm_Rn pg_G (d + 1) 16 33 ls (.int v :: t) (sp_me J (c + c') (s + s')) r := rn_virt (g := sp_me I c s) (st := .ref a0 :: .ref y :: t) tb_16_30 (decide_eq_true hT) ⟨Nat.le_add_left _ t.length, hl, rfl⟩ hq r
theorem tb_16_33 : mm_tb pg_G 16 33 = some (.ifCond .eq 5, 38, 0, 0) := rfl
theorem st_16_33 {d : Nat} {ls t : List Value} {g : mm_M} {r : mm_R} {x : Int32} : mm_Rn pg_G d 16 33 ls (.int x :: t) g r ↔ if x = 0 then mm_Rn pg_G d 16 38 ls (t) g r else mm_Rn pg_G d 16 36 ls (t) g r := rn_if_eq tb_16_33 r
theorem tb_16_36 : mm_tb pg_G 16 36 = some (.iconst 1, 0, 0, 0) := rfl
theorem st_16_36 {d : Nat} {ls t : List Value} {g : mm_M} {r : mm_R} : mm_Rn pg_G d 16 36 ls (t) g r ↔ mm_Rn pg_G d 16 37 ls (io_v 1 :: t) g r := rn_iconst tb_16_36 r
theorem tb_16_37 : mm_tb pg_G 16 37 = some (.ireturn, 0, 0, 0) := rfl
theorem st_16_37 {d : Nat} {ls : List Value} {g : mm_M} {r : mm_R} {x : Int32} (hb : x = 0 ∨ x = 1) : mm_Rn pg_G d 16 37 ls [.int x] g r ↔ r = (some (.int x), g) := rn_ireturn_iff tb_16_37 (Or.inr ⟨rfl, hb⟩) r
theorem tb_16_38 : mm_tb pg_G 16 38 = some (.iinc 2 1, 0, 0, 0) := rfl
theorem st_16_38 {l0 l1 : Value} {d : Nat} {t : List Value} {g : mm_M} {r : mm_R} {x : Int32} (hc : mm_c1 l1 = true) : mm_Rn pg_G d 16 38 [l0, l1, .int x] (t) g r ↔ mm_Rn pg_G d 16 41 [l0, l1, .int (x + Int32.ofInt 1)] (t) g r := rn_iinc tb_16_38 rfl (mm_so_of (ls := [l0, l1, .int x]) (v := l1) (Nat.le_of_ble_eq_true rfl) rfl hc) r
theorem tb_16_41 : mm_tb pg_G 16 41 = some (.goto (-39), 2, 0, 0) := rfl
theorem st_16_41 {d : Nat} {ls t : List Value} {g : mm_M} {r : mm_R} : mm_Rn pg_G d 16 41 ls (t) g r ↔ mm_Rn pg_G d 16 2 ls (t) g r := rn_goto tb_16_41 r
theorem tb_16_44 : mm_tb pg_G 16 44 = some (.iconst 0, 0, 0, 0) := rfl
theorem st_16_44 {d : Nat} {ls t : List Value} {g : mm_M} {r : mm_R} : mm_Rn pg_G d 16 44 ls (t) g r ↔ mm_Rn pg_G d 16 45 ls (io_v 0 :: t) g r := rn_iconst tb_16_44 r
theorem tb_16_45 : mm_tb pg_G 16 45 = some (.ireturn, 0, 0, 0) := rfl
theorem st_16_45 {d : Nat} {ls : List Value} {g : mm_M} {r : mm_R} {x : Int32} (hb : x = 0 ∨ x = 1) : mm_Rn pg_G d 16 45 ls [.int x] g r ↔ r = (some (.int x), g) := rn_ireturn_iff tb_16_45 (Or.inr ⟨rfl, hb⟩) r
theorem tb_17_0 : mm_tb pg_G 17 0 = some (.iconst 0, 0, 0, 0) := rfl
theorem st_17_0 {d : Nat} {ls t : List Value} {g : mm_M} {r : mm_R} : mm_Rn pg_G d 17 0 ls (t) g r ↔ mm_Rn pg_G d 17 1 ls (io_v 0 :: t) g r := rn_iconst tb_17_0 r
theorem tb_17_1 : mm_tb pg_G 17 1 = some (.istore_n 1, 0, 0, 0) := rfl
theorem st_17_1 {l0 l1 : Value} {d : Nat} {t : List Value} {g : mm_M} {r : mm_R} {x : Int32} (hc : mm_c1 l0 = true) : mm_Rn pg_G d 17 1 [l0, l1] (.int x :: t) g r ↔ mm_Rn pg_G d 17 2 [l0, .int x] (t) g r := rn_istore_n tb_17_1 (mm_so_of (ls := [l0, l1]) (v := l0) (Nat.le_of_ble_eq_true rfl) rfl hc) r
theorem tb_17_2 : mm_tb pg_G 17 2 = some (.iload_n 1, 0, 0, 0) := rfl
theorem st_17_2 {l0 : Value} {d : Nat} {t : List Value} {g : mm_M} {r : mm_R} {x : Int32} : mm_Rn pg_G d 17 2 [l0, .int x] (t) g r ↔ mm_Rn pg_G d 17 3 [l0, .int x] (.int x :: t) g r := rn_iload_n tb_17_2 rfl r
theorem tb_17_3 : mm_tb pg_G 17 3 = some (.aload_n 0, 0, 0, 0) := rfl
theorem st_17_3 {l1 : Value} {d : Nat} {t : List Value} {g : mm_M} {r : mm_R} {x : Nat} : mm_Rn pg_G d 17 3 [.ref x, l1] (t) g r ↔ mm_Rn pg_G d 17 4 [.ref x, l1] (.ref x :: t) g r := rn_aload_n tb_17_3 rfl r
theorem tb_17_4 : mm_tb pg_G 17 4 = some (.getfield 24, 3, 5, 150) := rfl
theorem st_17_4 {d : Nat} {ls t : List Value} {g : mm_M} {r : mm_R} {x : Nat} (hT : g.1 x = some (3, 10)) : mm_Rn pg_G d 17 4 ls (.ref x :: t) g r ↔ mm_Rn pg_G d 17 7 ls (g.2.1 x 5 :: t) g r := rn_getfield tb_17_4 hT r
theorem tb_17_7 : mm_tb pg_G 17 7 = some (.if_icmp .ge 24, 31, 0, 0) := rfl
theorem st_17_7 {d : Nat} {ls t : List Value} {g : mm_M} {r : mm_R} {x y : Int32} : mm_Rn pg_G d 17 7 ls (.int y :: .int x :: t) g r ↔ if y ≤ x then mm_Rn pg_G d 17 31 ls (t) g r else mm_Rn pg_G d 17 10 ls (t) g r := rn_icmp_ge tb_17_7 r
theorem tb_17_10 : mm_tb pg_G 17 10 = some (.aload_n 0, 0, 0, 0) := rfl
theorem st_17_10 {l1 : Value} {d : Nat} {t : List Value} {g : mm_M} {r : mm_R} {x : Nat} : mm_Rn pg_G d 17 10 [.ref x, l1] (t) g r ↔ mm_Rn pg_G d 17 11 [.ref x, l1] (.ref x :: t) g r := rn_aload_n tb_17_10 rfl r
theorem tb_17_11 : mm_tb pg_G 17 11 = some (.aload_n 0, 0, 0, 0) := rfl
theorem st_17_11 {l1 : Value} {d : Nat} {t : List Value} {g : mm_M} {r : mm_R} {x : Nat} : mm_Rn pg_G d 17 11 [.ref x, l1] (t) g r ↔ mm_Rn pg_G d 17 12 [.ref x, l1] (.ref x :: t) g r := rn_aload_n tb_17_11 rfl r
theorem tb_17_12 : mm_tb pg_G 17 12 = some (.getfield 11, 3, 3, 147) := rfl
theorem st_17_12 {d : Nat} {ls t : List Value} {g : mm_M} {r : mm_R} {x : Nat} (hT : g.1 x = some (3, 10)) : mm_Rn pg_G d 17 12 ls (.ref x :: t) g r ↔ mm_Rn pg_G d 17 15 ls (g.2.1 x 3 :: t) g r := rn_getfield tb_17_12 hT r
theorem tb_17_15 : mm_tb pg_G 17 15 = some (.iload_n 1, 0, 0, 0) := rfl
theorem st_17_15 {l0 : Value} {d : Nat} {t : List Value} {g : mm_M} {r : mm_R} {x : Int32} : mm_Rn pg_G d 17 15 [l0, .int x] (t) g r ↔ mm_Rn pg_G d 17 16 [l0, .int x] (.int x :: t) g r := rn_iload_n tb_17_15 rfl r
theorem tb_17_16 : mm_tb pg_G 17 16 = some (.aaload, 0, 0, 0) := rfl
theorem st_17_16 {d : Nat} {ls t : List Value} {g : mm_M} {r : mm_R} {x : Nat} {j : Int32} (hc : mm_in (g.1 x) 102 103 j = true) : mm_Rn pg_G d 17 16 ls (.int j :: .ref x :: t) g r ↔ mm_Rn pg_G d 17 17 ls (g.2.1 x j.toNatClampNeg :: t) g r := rn_aaload tb_17_16 hc r
theorem tb_17_17 : mm_tb pg_G 17 17 = some (.invokevirtual 82, 15, 2, 307) := rfl
theorem st_17_17 {d c s c' s' : Nat} {ls t : List Value} {I J : sp_I} {r : mm_R} {y a0 : Nat} {v : Int32} (hl : t.length ≤ 4) (hT : sp_T I y = some (3, 10)) (hq : mm_Rn pg_G d 15 0 [.ref y, .ref a0] [] (sp_me I 0 0) (some (.int v), sp_me J c' s')) : mm_Rn pg_G (d + 1) 17 17 ls (.ref a0 :: .ref y :: t) (sp_me I c s) r ↔ mm_Rn pg_G (d + 1) 17 20 ls (.int v :: t) (sp_me J (c + c') (s + s')) r := rn_virt (g := sp_me I c s) (st := .ref a0 :: .ref y :: t) tb_17_17 (decide_eq_true hT) ⟨Nat.le_add_left _ t.length, hl, rfl⟩ hq r
theorem tb_17_20 : mm_tb pg_G 17 20 = some (.ifCond .eq 5, 25, 0, 0) := rfl
theorem st_17_20 {d : Nat} {ls t : List Value} {g : mm_M} {r : mm_R} {x : Int32} : mm_Rn pg_G d 17 20 ls (.int x :: t) g r ↔ if x = 0 then mm_Rn pg_G d 17 25 ls (t) g r else mm_Rn pg_G d 17 23 ls (t) g r := rn_if_eq tb_17_20 r
theorem tb_17_23 : mm_tb pg_G 17 23 = some (.iconst 1, 0, 0, 0) := rfl
theorem st_17_23 {d : Nat} {ls t : List Value} {g : mm_M} {r : mm_R} : mm_Rn pg_G d 17 23 ls (t) g r ↔ mm_Rn pg_G d 17 24 ls (io_v 1 :: t) g r := rn_iconst tb_17_23 r
theorem tb_17_24 : mm_tb pg_G 17 24 = some (.ireturn, 0, 0, 0) := rfl
theorem st_17_24 {d : Nat} {ls : List Value} {g : mm_M} {r : mm_R} {x : Int32} (hb : x = 0 ∨ x = 1) : mm_Rn pg_G d 17 24 ls [.int x] g r ↔ r = (some (.int x), g) := rn_ireturn_iff tb_17_24 (Or.inr ⟨rfl, hb⟩) r
theorem tb_17_25 : mm_tb pg_G 17 25 = some (.iinc 1 1, 0, 0, 0) := rfl
theorem st_17_25 {l0 : Value} {d : Nat} {t : List Value} {g : mm_M} {r : mm_R} {x : Int32} (hc : mm_c1 l0 = true) : mm_Rn pg_G d 17 25 [l0, .int x] (t) g r ↔ mm_Rn pg_G d 17 28 [l0, .int (x + Int32.ofInt 1)] (t) g r := rn_iinc tb_17_25 rfl (mm_so_of (ls := [l0, .int x]) (v := l0) (Nat.le_of_ble_eq_true rfl) rfl hc) r
theorem tb_17_28 : mm_tb pg_G 17 28 = some (.goto (-26), 2, 0, 0) := rfl
theorem st_17_28 {d : Nat} {ls t : List Value} {g : mm_M} {r : mm_R} : mm_Rn pg_G d 17 28 ls (t) g r ↔ mm_Rn pg_G d 17 2 ls (t) g r := rn_goto tb_17_28 r
theorem tb_17_31 : mm_tb pg_G 17 31 = some (.iconst 0, 0, 0, 0) := rfl
theorem st_17_31 {d : Nat} {ls t : List Value} {g : mm_M} {r : mm_R} : mm_Rn pg_G d 17 31 ls (t) g r ↔ mm_Rn pg_G d 17 32 ls (io_v 0 :: t) g r := rn_iconst tb_17_31 r
theorem tb_17_32 : mm_tb pg_G 17 32 = some (.ireturn, 0, 0, 0) := rfl
theorem st_17_32 {d : Nat} {ls : List Value} {g : mm_M} {r : mm_R} {x : Int32} (hb : x = 0 ∨ x = 1) : mm_Rn pg_G d 17 32 ls [.int x] g r ↔ r = (some (.int x), g) := rn_ireturn_iff tb_17_32 (Or.inr ⟨rfl, hb⟩) r
end
