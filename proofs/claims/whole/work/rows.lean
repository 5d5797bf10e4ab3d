section
/-! A machine of our own over abstract addresses. A cell: kind and length; its contents: a value by address and slot. Kinds: below 100 the classes by number; 100 an int array, 101 the script, 102 and 103 arrays of references. -/
abbrev mm_T : Type := Nat → Option (Nat × Nat)
abbrev mm_V : Type := Nat → Nat → Value
abbrev mm_M : Type := mm_T × mm_V × Nat × Nat
abbrev mm_R : Type := Option Value × mm_M
abbrev mm_E : Type := Instr × Nat × Nat × Nat
/-- table; locals of a method; field types; slots of a class; the address of the next making; what a method answers (0 nothing, 1 an int, 2 a boolean); class of the receiver -/
abbrev mm_G : Type := (Nat → Nat → Option mm_E) × (Nat → Nat) × (Nat → Nat → FieldType) × (Nat → Nat) × (Nat → Nat → List Value → mm_V → Nat) × (Nat → Nat) × (Nat → Nat)
abbrev mm_tb (G : mm_G) : Nat → Nat → Option mm_E := G.1
abbrev mm_mx (G : mm_G) : Nat → Nat := G.2.1
abbrev mm_ft (G : mm_G) : Nat → Nat → FieldType := G.2.2.1
abbrev mm_sl (G : mm_G) : Nat → Nat := G.2.2.2.1
abbrev mm_pk (G : mm_G) : Nat → Nat → List Value → mm_V → Nat := G.2.2.2.2.1
abbrev mm_rb (G : mm_G) : Nat → Nat := G.2.2.2.2.2.1
abbrev mm_rc (G : mm_G) : Nat → Nat := G.2.2.2.2.2.2
abbrev mm_F : Type := Nat → Nat → Nat → List Value → List Value → mm_M → Option mm_R
def mm_up (V : mm_V) (x k : Nat) (v : Value) : mm_V := fun y j => if y = x ∧ j = k then v else V y j
def mm_wr (g : mm_M) (x k : Nat) (v : Value) : mm_M := (g.1, mm_up g.2.1 x k v, g.2.2)
def mm_alT (T : mm_T) (x kd len : Nat) : mm_T := fun y => if y = x then some (kd, len) else T y
def mm_alV (V : mm_V) (x : Nat) (z : Nat → Value) : mm_V := fun y j => if y = x then z j else V y j
def mm_al (g : mm_M) (x kd len : Nat) (z : Nat → Value) : mm_M := (mm_alT g.1 x kd len, mm_alV g.2.1 x z, g.2.2.1 + 1, g.2.2.2 + len)
def mm_i1 (st : List Value) (k : Int32 → List Value → Option mm_R) : Option mm_R := match st with
  | .int x :: r => k x r
  | _ => none
def mm_i2 (st : List Value) (k : Int32 → Int32 → List Value → Option mm_R) : Option mm_R := match st with
  | .int y :: .int x :: r => k x y r
  | _ => none
def mm_l1 (st : List Value) (k : Int64 → List Value → Option mm_R) : Option mm_R := match st with
  | .long x :: r => k x r
  | _ => none
def mm_l2 (st : List Value) (k : Int64 → Int64 → List Value → Option mm_R) : Option mm_R := match st with
  | .long y :: .long x :: r => k x y r
  | _ => none
def mm_r1 (st : List Value) (k : Nat → List Value → Option mm_R) : Option mm_R := match st with
  | .ref x :: r => k x r
  | _ => none
def mm_vr (st : List Value) (k : Value → Nat → List Value → Option mm_R) : Option mm_R := match st with
  | v :: .ref x :: r => k v x r
  | _ => none
def mm_ir (st : List Value) (k : Int32 → Nat → List Value → Option mm_R) : Option mm_R := match st with
  | .int j :: .ref x :: r => k j x r
  | _ => none
def mm_iir (st : List Value) (k : Int32 → Int32 → Nat → List Value → Option mm_R) : Option mm_R := match st with
  | .int v :: .int j :: .ref x :: r => k v j x r
  | _ => none
def mm_rir (st : List Value) (k : Nat → Int32 → Nat → List Value → Option mm_R) : Option mm_R := match st with
  | .ref v :: .int j :: .ref x :: r => k v j x r
  | _ => none
def mm_v1 (st : List Value) (k : Value → List Value → Option mm_R) : Option mm_R := match st with
  | v :: r => k v r
  | _ => none
def mm_v2 (st : List Value) (k : Value → Value → List Value → Option mm_R) : Option mm_R := match st with
  | v :: w :: r => k v w r
  | _ => none
def mm_in (o : Option (Nat × Nat)) (lo hi : Nat) (j : Int32) : Bool := match o with
  | some (kd, len) => decide (lo ≤ kd ∧ kd ≤ hi ∧ 0 ≤ j ∧ j.toNatClampNeg < len)
  | none => false
def mm_ln (o : Option (Nat × Nat)) (k : Nat → Option mm_R) : Option mm_R := match o with
  | some (kd, len) => if 100 ≤ kd ∧ kd ≤ 103 then k len else none
  | none => none
def mm_ld (ls : List Value) (i : Nat) : Value := ls.getD i (.retAddr 0)
def mm_oi (v : Value) (k : Int32 → Option mm_R) : Option mm_R := match v with
  | .int x => k x
  | _ => none
def mm_or (v : Value) (k : Nat → Option mm_R) : Option mm_R := match v with
  | .ref x => k x
  | _ => none
def mm_ol (v : Value) (k : Int64 → Option mm_R) : Option mm_R := match v with
  | .long x => k x
  | _ => none
def mm_so (ls : List Value) (i n : Nat) : Bool := decide (i + n ≤ ls.length) && (decide (i = 0) || decide ((mm_ld ls (i - 1)).category = 1))
def mm_ar (v : Value) : Bool := match v with
  | .int _ => true
  | .ref _ => true
  | _ => false
def mm_c1 (v : Value) : Bool := decide (v.category = 1)
def mm_go (o : Option Int) (pc : Nat) (k : Nat → Option mm_R) : Option mm_R := match o with
  | some off => if 0 ≤ (pc : Int) + off then k ((pc : Int) + off).toNat else none
  | none => none
/-- a call: depth d, n values (the receiver among them) off the stack -/
def mm_cl (G : mm_G) (f : mm_F) (d μ pc μ' n : Nat) (ls st : List Value) (g : mm_M) : Option mm_R := match d with
  | 0 => none
  | d' + 1 => if n ≤ st.length ∧ (st.drop n).length ≤ 4 ∧ (st.take n).all mm_ar = true then
      match f d' μ' 0 ((st.take n).reverse ++ List.replicate (mm_mx G μ' - n) (.retAddr 0)) [] (g.1, g.2.1, 0, 0) with
      | some q => f (d' + 1) μ (pc + 3) ls (q.1.toList ++ st.drop n) (q.2.1, q.2.2.1, g.2.2.1 + q.2.2.2.1, g.2.2.2 + q.2.2.2.2)
      | none => none
    else none
/-- the receiver of a virtual call is of the class that the method is of -/
def mm_rv (G : mm_G) (μ' n : Nat) (st : List Value) (T : mm_T) : Bool := match st[n - 1]? with
  | some (.ref x) => decide (T x = some (mm_rc G μ', mm_sl G (mm_rc G μ')))
  | _ => false
def mm_rf (n : Nat) (st : List Value) : Bool := match st[n - 1]? with
  | some (.ref _) => true
  | _ => false
def mm_stp (G : mm_G) (f : mm_F) (d μ pc : Nat) (ls st : List Value) (g : mm_M) : Option mm_R := match mm_tb G μ pc with
  | none => none
  | some (ins, a, b, _) => match ins with
    | .iconst n => f d μ (pc + 1) ls (.int (Int32.ofInt n) :: st) g
    | .bipush n => f d μ (pc + 2) ls (.int (Int32.ofInt n) :: st) g
    | .sipush n => f d μ (pc + 3) ls (.int (Int32.ofInt n) :: st) g
    | .lconst n => f d μ (pc + 1) ls (.long (Int64.ofNat n) :: st) g
    | .iload i => mm_oi (mm_ld ls i) fun x => f d μ (pc + 2) ls (.int x :: st) g
    | .iload_n i => mm_oi (mm_ld ls i) fun x => f d μ (pc + 1) ls (.int x :: st) g
    | .aload i => mm_or (mm_ld ls i) fun x => f d μ (pc + 2) ls (.ref x :: st) g
    | .aload_n i => mm_or (mm_ld ls i) fun x => f d μ (pc + 1) ls (.ref x :: st) g
    | .lload i => mm_ol (mm_ld ls i) fun x => f d μ (pc + 2) ls (.long x :: st) g
    | .lload_n i => mm_ol (mm_ld ls i) fun x => f d μ (pc + 1) ls (.long x :: st) g
    | .istore i => mm_i1 st fun x r => if mm_so ls i 1 = true then f d μ (pc + 2) (ls.set i (.int x)) r g else none
    | .istore_n i => mm_i1 st fun x r => if mm_so ls i 1 = true then f d μ (pc + 1) (ls.set i (.int x)) r g else none
    | .astore i => mm_r1 st fun x r => if mm_so ls i 1 = true then f d μ (pc + 2) (ls.set i (.ref x)) r g else none
    | .astore_n i => mm_r1 st fun x r => if mm_so ls i 1 = true then f d μ (pc + 1) (ls.set i (.ref x)) r g else none
    | .lstore i => mm_l1 st fun x r => if mm_so ls i 2 = true then f d μ (pc + 2) ((ls.set i (.long x)).set (i + 1) (.retAddr 0)) r g else none
    | .lstore_n i => mm_l1 st fun x r => if mm_so ls i 2 = true then f d μ (pc + 1) ((ls.set i (.long x)).set (i + 1) (.retAddr 0)) r g else none
    | .iinc i n => mm_oi (mm_ld ls i) fun x => if mm_so ls i 1 = true then f d μ (pc + 3) (ls.set i (.int (x + Int32.ofInt n))) st g else none
    | .iadd => mm_i2 st fun x y r => f d μ (pc + 1) ls (.int (x + y) :: r) g
    | .isub => mm_i2 st fun x y r => f d μ (pc + 1) ls (.int (x - y) :: r) g
    | .imul => mm_i2 st fun x y r => f d μ (pc + 1) ls (.int (x * y) :: r) g
    | .iand => mm_i2 st fun x y r => f d μ (pc + 1) ls (.int (x &&& y) :: r) g
    | .i2l => mm_i1 st fun x r => f d μ (pc + 1) ls (.long x.toInt64 :: r) g
    | .ladd => mm_l2 st fun x y r => f d μ (pc + 1) ls (.long (x + y) :: r) g
    | .lsub => mm_l2 st fun x y r => f d μ (pc + 1) ls (.long (x - y) :: r) g
    | .lmul => mm_l2 st fun x y r => f d μ (pc + 1) ls (.long (x * y) :: r) g
    | .ldiv => mm_l2 st fun x y r => if y = 0 then none else f d μ (pc + 1) ls (.long (x / y) :: r) g
    | .lcmp => mm_l2 st fun x y r => f d μ (pc + 1) ls (.int (lg_cmp x y) :: r) g
    | .dup => mm_v1 st fun v r => if mm_c1 v = true then f d μ (pc + 1) ls (v :: v :: r) g else none
    | .dup2 => mm_v2 st fun v w r => if mm_c1 v = true ∧ mm_c1 w = true then f d μ (pc + 1) ls (v :: w :: v :: w :: r) g else none
    | .ifCond .eq _ => mm_i1 st fun x r => if x = 0 then f d μ a ls r g else f d μ (pc + 3) ls r g
    | .ifCond .ne _ => mm_i1 st fun x r => if ¬ x = 0 then f d μ a ls r g else f d μ (pc + 3) ls r g
    | .ifCond .lt _ => mm_i1 st fun x r => if x < 0 then f d μ a ls r g else f d μ (pc + 3) ls r g
    | .ifCond .ge _ => mm_i1 st fun x r => if 0 ≤ x then f d μ a ls r g else f d μ (pc + 3) ls r g
    | .ifCond .gt _ => mm_i1 st fun x r => if 0 < x then f d μ a ls r g else f d μ (pc + 3) ls r g
    | .ifCond .le _ => mm_i1 st fun x r => if x ≤ 0 then f d μ a ls r g else f d μ (pc + 3) ls r g
    | .if_icmp .eq _ => mm_i2 st fun x y r => if x = y then f d μ a ls r g else f d μ (pc + 3) ls r g
    | .if_icmp .ne _ => mm_i2 st fun x y r => if ¬ x = y then f d μ a ls r g else f d μ (pc + 3) ls r g
    | .if_icmp .lt _ => mm_i2 st fun x y r => if x < y then f d μ a ls r g else f d μ (pc + 3) ls r g
    | .if_icmp .ge _ => mm_i2 st fun x y r => if y ≤ x then f d μ a ls r g else f d μ (pc + 3) ls r g
    | .if_icmp .gt _ => mm_i2 st fun x y r => if y < x then f d μ a ls r g else f d μ (pc + 3) ls r g
    | .if_icmp .le _ => mm_i2 st fun x y r => if x ≤ y then f d μ a ls r g else f d μ (pc + 3) ls r g
    | .goto _ => f d μ a ls st g
    | .tableswitch dflt lo hi offs => mm_i1 st fun x r => mm_go (if x.toInt < lo ∨ hi < x.toInt then some dflt else offs[(x.toInt - lo).toNat]?) pc fun t => f d μ t ls r g
    | .getfield _ => mm_r1 st fun x r => if g.1 x = some (a, mm_sl G a) then f d μ (pc + 3) ls (g.2.1 x b :: r) g else none
    | .putfield _ => mm_vr st fun v x r => if g.1 x = some (a, mm_sl G a) ∧ fits (mm_ft G a b) v = true then f d μ (pc + 3) ls r (mm_wr g x b v) else none
    | .iaload => mm_ir st fun j x r => if mm_in (g.1 x) 100 101 j = true then f d μ (pc + 1) ls (g.2.1 x j.toNatClampNeg :: r) g else none
    | .aaload => mm_ir st fun j x r => if mm_in (g.1 x) 102 103 j = true then f d μ (pc + 1) ls (g.2.1 x j.toNatClampNeg :: r) g else none
    | .iastore => mm_iir st fun v j x r => if mm_in (g.1 x) 100 100 j = true then f d μ (pc + 1) ls r (mm_wr g x j.toNatClampNeg (.int v)) else none
    | .aastore => mm_rir st fun v j x r => if mm_in (g.1 x) a a j = true ∧ g.1 v = some (b, mm_sl G b) then f d μ (pc + 1) ls r (mm_wr g x j.toNatClampNeg (.ref v)) else none
    | .arraylength => mm_r1 st fun x r => mm_ln (g.1 x) fun len => f d μ (pc + 1) ls (.int (Int32.ofNat len) :: r) g
    | .new _ => if g.1 (mm_pk G μ pc ls g.2.1) = none then f d μ (pc + 3) ls (.ref (mm_pk G μ pc ls g.2.1) :: st) (mm_al g (mm_pk G μ pc ls g.2.1) a (mm_sl G a) fun k => defaultValue (mm_ft G a k)) else none
    | .newarray _ => mm_i1 st fun n r => if g.1 (mm_pk G μ pc ls g.2.1) = none ∧ 0 ≤ n ∧ n.toNatClampNeg ≤ 1000 then f d μ (pc + 2) ls (.ref (mm_pk G μ pc ls g.2.1) :: r) (mm_al g (mm_pk G μ pc ls g.2.1) 100 n.toNatClampNeg fun _ => .int 0) else none
    | .anewarray _ => mm_i1 st fun n r => if g.1 (mm_pk G μ pc ls g.2.1) = none ∧ 0 ≤ n ∧ n.toNatClampNeg ≤ 1000 then f d μ (pc + 3) ls (.ref (mm_pk G μ pc ls g.2.1) :: r) (mm_al g (mm_pk G μ pc ls g.2.1) a n.toNatClampNeg fun _ => .null) else none
    | .invokestatic _ => if a = 999 then (if d = 0 then none else mm_i2 st fun x y r => if r.length ≤ 4 then f d μ (pc + 3) ls (.int (if x < y then y else x) :: r) g else none) else mm_cl G f d μ pc a b ls st g
    | .invokevirtual _ => if mm_rv G a b st g.1 = true then mm_cl G f d μ pc a b ls st g else none
    | .invokespecial _ => if a = 998 then (if d = 0 then none else mm_r1 st fun _ r => if r.length ≤ 4 then f d μ (pc + 3) ls r g else none) else if mm_rf b st = true then mm_cl G f d μ pc a b ls st g else none
    | .ireturn => mm_i1 st fun x r => if r = [] ∧ (mm_rb G μ = 1 ∨ mm_rb G μ = 2 ∧ (x = 0 ∨ x = 1)) then some (some (.int x), g) else none
    | .return_ => if st = [] ∧ mm_rb G μ = 0 then some (none, g) else none
    | _ => none
def mm_run (G : mm_G) : Nat → mm_F
  | 0 => fun _ _ _ _ _ _ => none
  | n + 1 => mm_stp G (mm_run G n)
end
section
/-! What the machine of our own has to do with the heap: an address goes by φ to the heap's -/
/-- the program: tables; how many classes; the classes; the elements' class of an array kind; code, name and answer of a method; the words; how a method is called (0 static, 1 virtual, 2 a constructor, 3 a nest mate's private constructor) and with how many values; how many methods; the nest mates' links -/
abbrev mm_S : Type := mm_G × Nat × (Nat → vw_C) × (Nat → Nat) × (Nat → ByteArray) × (Nat → MethodName) × (Nat → Option FieldType) × List Cond × (Nat → Nat × Nat) × Nat × List Cond
abbrev mm_nc (S : mm_S) : Nat := S.2.1
abbrev mm_ck (S : mm_S) : Nat → vw_C := S.2.2.1
abbrev mm_ek (S : mm_S) : Nat → Nat := S.2.2.2.1
abbrev mm_mb (S : mm_S) : Nat → ByteArray := S.2.2.2.2.1
abbrev mm_mn (S : mm_S) : Nat → MethodName := S.2.2.2.2.2.1
abbrev mm_mr (S : mm_S) : Nat → Option FieldType := S.2.2.2.2.2.2.1
abbrev mm_AL (S : mm_S) : List Cond := S.2.2.2.2.2.2.2.1
abbrev mm_km (S : mm_S) : Nat → Nat × Nat := S.2.2.2.2.2.2.2.2.1
abbrev mm_nm (S : mm_S) : Nat := S.2.2.2.2.2.2.2.2.2.1
abbrev mm_NL (S : mm_S) : List Cond := S.2.2.2.2.2.2.2.2.2.2
/-- the start: class numbers and slots, array classes, the heap's size -/
abbrev mm_Y : Type := va_G × (Nat → ClassId) × Nat
def mm_cv (φ : Nat → Nat) (v : Value) : Value := match v with
  | .ref a => .ref (φ a)
  | w => w
def mm_lv (T : mm_T) (v : Value) : Prop := match v with
  | .ref a => T a ≠ none
  | _ => True
def mm_fu (φ : Nat → Nat) (x q : Nat) : Nat → Nat := fun y => if y = x then q else φ y
def mm_cell (Y : mm_Y) (U : State) (φ : Nat → Nat) (V : mm_V) (H : Heap) (x kd len : Nat) : Prop :=
  if kd < 100 then t_OB (φ x) (Y.1.1 kd) len (Y.1.2 kd) H (fun k => mm_cv φ (V x k))
  else if kd = 101 then ∃ scr : Cell, H[φ x]? = some scr ∧ U.isArrayOf scr .int ∧ scr.vm ≠ .unknown ∧ scr.slots.size = len ∧ ∀ j : Nat, j < len → scr.slots[j]? = some (mm_cv φ (V x j))
  else H[φ x]? = some (arrV (Y.2.1 kd) len (fun j => mm_cv φ (V x j)))
def mm_HR (Y : mm_Y) (U : State) (φ : Nat → Nat) (T : mm_T) (V : mm_V) (H : Heap) : Prop :=
  (∀ x kd len, T x = some (kd, len) → mm_cell Y U φ V H x kd len ∧ φ x < H.size ∧ (kd ≠ 101 → Y.2.2 ≤ φ x) ∧ ∀ k, k < len → mm_lv T (V x k)) ∧ ∀ x y, T x ≠ none → T y ≠ none → φ x = φ y → x = y
def mm_ext (φ : Nat → Nat) (T : mm_T) (φ' : Nat → Nat) (T' : mm_T) : Prop := ∀ x, T x ≠ none → T' x = T x ∧ φ' x = φ x
theorem mm_ext.rf {φ : Nat → Nat} {T : mm_T} : mm_ext φ T φ T := fun _ _ => ⟨rfl, rfl⟩
theorem mm_ext.trans {φ φ1 φ2 : Nat → Nat} {T T1 T2 : mm_T} (h : mm_ext φ T φ1 T1) (h2 : mm_ext φ1 T1 φ2 T2) : mm_ext φ T φ2 T2 := by
  intro x hx
  obtain ⟨a, b⟩ := h x hx
  obtain ⟨a2, b2⟩ := h2 x (by rw [a]; exact hx)
  exact ⟨a2.trans a, b2.trans b⟩
theorem mm_cv_ext {φ φ' : Nat → Nat} {T T' : mm_T} (h : mm_ext φ T φ' T') {v : Value} (hv : mm_lv T v) : mm_cv φ' v = mm_cv φ v := by
  cases v with
  | ref a => show Value.ref (φ' a) = Value.ref (φ a); rw [(h a hv).2]
  | _ => rfl
theorem mm_lv_ext {φ φ' : Nat → Nat} {T T' : mm_T} (h : mm_ext φ T φ' T') {v : Value} (hv : mm_lv T v) : mm_lv T' v := by
  cases v with
  | ref a => show T' a ≠ none; rw [(h a hv).1]; exact hv
  | _ => trivial
theorem mm_map_ext {φ φ' : Nat → Nat} {T T' : mm_T} (h : mm_ext φ T φ' T') {st : List Value} (hv : ∀ v ∈ st, mm_lv T v) : st.map (mm_cv φ') = st.map (mm_cv φ) :=
  List.map_congr_left fun v hm => mm_cv_ext h (hv v hm)
theorem mm_arrV_ext {cA : ClassId} {n : Nat} {f f' : Nat → Value} (h : ∀ j, j < n → f j = f' j) : arrV cA n f = arrV cA n f' := by
  unfold arrV
  congr 1
  congr 1
  funext j
  exact h j.val j.isLt
theorem mm_cell.kept {Y : mm_Y} {U : State} {φ φ' : Nat → Nat} {V V' : mm_V} {H H' : Heap} {x kd len : Nat} (h : mm_cell Y U φ V H x kd len) (hφ : φ' x = φ x) (hq : H'[φ x]? = H[φ x]?) (hv : ∀ k, k < len → mm_cv φ' (V' x k) = mm_cv φ (V x k)) : mm_cell Y U φ' V' H' x kd len := by
  unfold mm_cell at h ⊢
  rw [hφ]
  split
  · rename_i h0
    rw [if_pos h0] at h
    obtain ⟨cell, q, r1, r2, r3⟩ := h
    exact ⟨cell, by rw [hq]; exact q, r1, r2, fun k hk => (r3 k hk).trans (congrArg some (hv k hk).symm)⟩
  · rename_i h0
    rw [if_neg h0] at h
    split
    · rename_i h1
      rw [if_pos h1] at h
      obtain ⟨scr, q, r1, r2, r3, r4⟩ := h
      exact ⟨scr, by rw [hq]; exact q, r1, r2, r3, fun k hk => (r4 k hk).trans (congrArg some (hv k hk).symm)⟩
    · rename_i h1
      rw [if_neg h1] at h
      rw [hq, h]
      exact congrArg some (mm_arrV_ext fun j hj => (hv j hj).symm)
theorem mm_cell.moved {Y : mm_Y} {u U : State} {φ : Nat → Nat} {V : mm_V} {H : Heap} {x kd len : Nat} (hvm : u.vm.Alike U.vm) (h : mm_cell Y u φ V H x kd len) : mm_cell Y U φ V H x kd len := by
  unfold mm_cell at h ⊢
  split
  · rename_i h0
    rw [if_pos h0] at h
    exact h
  · rename_i h0
    rw [if_neg h0] at h
    split
    · rename_i h1
      rw [if_pos h1] at h
      obtain ⟨scr, q, r1, r2⟩ := h
      exact ⟨scr, q, State.isArrayOf_alike hvm r1, r2⟩
    · rename_i h1
      rw [if_neg h1] at h
      exact h
theorem mm_HR.moved {Y : mm_Y} {u U : State} {φ : Nat → Nat} {T : mm_T} {V : mm_V} {H : Heap} (hvm : u.vm.Alike U.vm) (h : mm_HR Y u φ T V H) : mm_HR Y U φ T V H :=
  ⟨fun x kd len hx => ⟨(h.1 x kd len hx).1.moved hvm, (h.1 x kd len hx).2⟩, h.2⟩
theorem mm_HR.put {Y : mm_Y} {U : State} {φ : Nat → Nat} {T : mm_T} {V : mm_V} {H H' : Heap} (h : mm_HR Y U φ T V H) {x kd len k : Nat} {v : Value} (hT : T x = some (kd, len)) (hv : mm_lv T v) (hsz : H'.size = H.size) (hoff : ∀ q, q ≠ φ x → H'[q]? = H[q]?)
    (hc : mm_cell Y U φ (mm_up V x k v) H' x kd len) : mm_HR Y U φ T (mm_up V x k v) H' := by
  refine ⟨fun y kd' len' hy => ?_, h.2⟩
  by_cases e : y = x
  · subst e
    cases hT.symm.trans hy
    obtain ⟨-, a2, a3, a4⟩ := h.1 y _ _ hT
    refine ⟨hc, by rw [hsz]; exact a2, a3, fun j hj => ?_⟩
    unfold mm_up
    split
    · exact hv
    · exact a4 j hj
  · obtain ⟨a1, a2, a3, a4⟩ := h.1 y _ _ hy
    have e1 : ∀ j, mm_up V x k v y j = V y j := fun j => by unfold mm_up; rw [if_neg (fun q => e q.1)]
    refine ⟨a1.kept rfl (hoff _ fun q => e (h.2 y x (by rw [hy]; exact fun z => by cases z) (by rw [hT]; exact fun z => by cases z) q)) (fun j _ => by rw [e1]), by rw [hsz]; exact a2, a3, fun j hj => by rw [e1]; exact a4 j hj⟩
theorem mm_new_ext {φ : Nat → Nat} {T : mm_T} {x q kd len : Nat} (hT : T x = none) : mm_ext φ T (mm_fu φ x q) (mm_alT T x kd len) := by
  intro y hy
  have e : y ≠ x := fun z => hy (by rw [z]; exact hT)
  exact ⟨by unfold mm_alT; rw [if_neg e], by unfold mm_fu; rw [if_neg e]⟩
theorem mm_HR.new {Y : mm_Y} {U : State} {φ : Nat → Nat} {T : mm_T} {V : mm_V} {H H' : Heap} (h : mm_HR Y U φ T V H) {x kd len : Nat} {z : Nat → Value} (hT : T x = none) (hsz : H'.size = H.size + 1) (hoff : ∀ q, q < H.size → H'[q]? = H[q]?) (hB : Y.2.2 ≤ H.size)
    (hz : ∀ k, mm_lv T (z k)) (hc : mm_cell Y U (mm_fu φ x H.size) (mm_alV V x z) H' x kd len) : mm_HR Y U (mm_fu φ x H.size) (mm_alT T x kd len) (mm_alV V x z) H' := by
  have hE : mm_ext φ T (mm_fu φ x H.size) (mm_alT T x kd len) := mm_new_ext hT
  have hnx : ∀ y, y ≠ x → mm_fu φ x H.size y = φ y := fun y e => by unfold mm_fu; rw [if_neg e]
  have hxx : mm_fu φ x H.size x = H.size := by unfold mm_fu; rw [if_pos rfl]
  have hTn : ∀ y, y ≠ x → mm_alT T x kd len y = T y := fun y e => by unfold mm_alT; rw [if_neg e]
  have hlt : ∀ y, T y ≠ none → φ y < H.size := by
    intro y hy
    cases hq : T y with
    | none => exact absurd hq hy
    | some q => exact (h.1 y q.1 q.2 hq).2.1
  refine ⟨fun y kd' len' hy => ?_, fun a b ha hb hab => ?_⟩
  · by_cases e : y = x
    · subst e
      have : mm_alT T y kd len y = some (kd, len) := by unfold mm_alT; rw [if_pos rfl]
      cases this.symm.trans hy
      refine ⟨hc, by rw [hxx, hsz]; omega, fun _ => by rw [hxx]; exact hB, fun j hj => ?_⟩
      have e1 : mm_alV V y z y j = z j := by unfold mm_alV; rw [if_pos rfl]
      rw [e1]
      exact mm_lv_ext hE (hz j)
    · rw [hTn y e] at hy
      obtain ⟨a1, a2, a3, a4⟩ := h.1 y _ _ hy
      have e1 : ∀ j, mm_alV V x z y j = V y j := fun j => by unfold mm_alV; rw [if_neg e]
      refine ⟨a1.kept (hnx y e) (hoff _ a2) (fun j hj => by rw [e1]; exact mm_cv_ext hE (a4 j hj)), by rw [hnx y e, hsz]; omega, by rw [hnx y e]; exact a3, fun j hj => by rw [e1]; exact mm_lv_ext hE (a4 j hj)⟩
  · by_cases ea : a = x
    · by_cases eb : b = x
      · rw [ea, eb]
      · rw [hTn b eb] at hb
        rw [ea, hxx, hnx b eb] at hab
        have := hlt b hb
        omega
    · rw [hTn a ea] at ha
      rw [hnx a ea] at hab
      by_cases eb : b = x
      · rw [eb, hxx] at hab
        have := hlt a ha
        omega
      · rw [hTn b eb] at hb
        rw [hnx b eb] at hab
        exact h.2 a b ha hb hab
/-! locals -/
def mm_nr (v : Value) : Bool := match v with
  | .retAddr _ => false
  | _ => true
def mm_LR (φ : Nat → Nat) (T : mm_T) (ls : List Value) (lsA : Array Slot) (nL : Nat) : Prop :=
  lsA.size = nL ∧ ls.length = nL ∧ lv_wf lsA ∧ (∀ (i : Nat) (v : Value), ls[i]? = some v → mm_nr v = true → lsA[i]? = some (Slot.val (mm_cv φ v))) ∧ ∀ v ∈ ls, mm_lv T v
theorem mm_LR.ext {φ φ' : Nat → Nat} {T T' : mm_T} {ls : List Value} {lsA : Array Slot} {nL : Nat} (h : mm_LR φ T ls lsA nL) (hE : mm_ext φ T φ' T') : mm_LR φ' T' ls lsA nL :=
  ⟨h.1, h.2.1, h.2.2.1, fun i v hi hn => by rw [mm_cv_ext hE (h.2.2.2.2 v (List.mem_of_getElem? hi))]; exact h.2.2.2.1 i v hi hn, fun v hv => mm_lv_ext hE (h.2.2.2.2 v hv)⟩
theorem mm_ld_some {ls : List Value} {i : Nat} {v : Value} (h : mm_ld ls i = v) (hn : mm_nr v = true) : ls[i]? = some v := by
  unfold mm_ld at h
  rw [List.getD_eq_getElem?_getD] at h
  cases hi : ls[i]? with
  | none => rw [hi] at h; rw [← h] at hn; cases hn
  | some w => rw [hi] at h; exact congrArg some h
theorem mm_LR.at {φ : Nat → Nat} {T : mm_T} {ls : List Value} {lsA : Array Slot} {nL i : Nat} {v : Value} (h : mm_LR φ T ls lsA nL) (hl : mm_ld ls i = v) (hn : mm_nr v = true) : lsA[i]? = some (.val (mm_cv φ v)) := h.2.2.2.1 i v (mm_ld_some hl hn) hn
/-- the locals as the kit lists them -/
def mm_as (φ : Nat → Nat) (ls : List Value) : List (Nat × Value) := (List.range ls.length).filterMap fun i => if mm_nr (mm_ld ls i) = true then some (i, mm_cv φ (mm_ld ls i)) else none
theorem mm_as_mem {φ : Nat → Nat} {ls : List Value} {i : Nat} {v : Value} (hi : ls[i]? = some v) (hn : mm_nr v = true) : (i, mm_cv φ v) ∈ mm_as φ ls := by
  have hl : i < ls.length := (List.getElem?_eq_some_iff.mp hi).1
  have hd : mm_ld ls i = v := by unfold mm_ld; rw [List.getD_eq_getElem?_getD, hi]; rfl
  exact List.mem_filterMap.mpr ⟨i, List.mem_range.mpr hl, by rw [hd, if_pos hn]⟩
theorem mm_LR.has {φ : Nat → Nat} {T : mm_T} {ls : List Value} {lsA : Array Slot} {nL : Nat} (h : mm_LR φ T ls lsA nL) : lv_has lsA nL (mm_as φ ls) := by
  refine ⟨h.1, h.2.2.1, fun q hq => ?_⟩
  obtain ⟨i, -, hi⟩ := List.mem_filterMap.mp hq
  split at hi
  · rename_i hn
    cases hi
    exact h.at rfl hn
  · cases hi
theorem mm_so_len {ls : List Value} {i n : Nat} (h : mm_so ls i n = true) : i + n ≤ ls.length := by
  unfold mm_so at h
  simp only [Bool.and_eq_true, decide_eq_true_eq] at h
  exact h.1
theorem mm_so_prev {ls : List Value} {i n j : Nat} {w : Value} (h : mm_so ls i n = true) (hj : ls[j]? = some w) (hji : j + 1 = i) : ¬ w.category = 2 := by
  unfold mm_so at h
  simp only [Bool.and_eq_true, Bool.or_eq_true, decide_eq_true_eq] at h
  have hd : mm_ld ls (i - 1) = w := by
    have : i - 1 = j := by omega
    rw [this]; unfold mm_ld; rw [List.getD_eq_getElem?_getD, hj]; rfl
  rw [hd] at h
  omega
theorem mm_cat {φ : Nat → Nat} {w : Value} : (mm_cv φ w).category = w.category := by cases w <;> rfl
theorem mm_LR.set1 {φ : Nat → Nat} {T : mm_T} {ls : List Value} {lsA ls' : Array Slot} {nL i : Nat} {v : Value} (h : mm_LR φ T ls lsA nL) (hs : mm_so ls i 1 = true) (hv : mm_lv T v)
    (h' : lv_has ls' nL ((i, mm_cv φ v) :: (mm_as φ ls).filter (fun q => !(q.1 == i) && !(q.1 + 1 == i && q.2.category == 2)))) : mm_LR φ T (ls.set i v) ls' nL := by
  refine ⟨h'.1, by rw [List.length_set]; exact h.2.1, h'.2.1, fun j w hj hn => ?_, fun w hw => ?_⟩
  · by_cases e : j = i
    · subst e
      rw [List.getElem?_set_self (by have := mm_so_len hs; omega)] at hj
      cases hj
      exact h'.2.2 _ List.mem_cons_self
    · rw [List.getElem?_set_ne (Ne.symm e)] at hj
      refine h'.2.2 (j, mm_cv φ w) (List.mem_cons_of_mem _ (List.mem_filter.mpr ⟨mm_as_mem hj hn, ?_⟩))
      simp only [Bool.and_eq_true, Bool.not_eq_true', beq_eq_false_iff_ne, ne_eq, Bool.and_eq_false_iff]
      refine ⟨e, ?_⟩
      by_cases e2 : j + 1 = i
      · exact Or.inr (by rw [mm_cat]; exact mm_so_prev hs hj e2)
      · exact Or.inl e2
  · rcases List.mem_or_eq_of_mem_set hw with h1 | h1
    · exact h.2.2.2.2 w h1
    · rw [h1]; exact hv
theorem mm_LR.set2 {φ : Nat → Nat} {T : mm_T} {ls : List Value} {lsA ls' : Array Slot} {nL i : Nat} {v : Value} (h : mm_LR φ T ls lsA nL) (hs : mm_so ls i 2 = true) (hv : mm_lv T v)
    (h' : lv_has ls' nL ((i, mm_cv φ v) :: (mm_as φ ls).filter (fun q => !(q.1 == i) && (!(q.1 == i + 1) && !(q.1 + 1 == i && q.2.category == 2))))) : mm_LR φ T ((ls.set i v).set (i + 1) (.retAddr 0)) ls' nL := by
  refine ⟨h'.1, by rw [List.length_set, List.length_set]; exact h.2.1, h'.2.1, fun j w hj hn => ?_, fun w hw => ?_⟩
  · by_cases e1 : j = i + 1
    · subst e1
      rw [List.getElem?_set_self (by have := mm_so_len hs; rw [List.length_set]; omega)] at hj
      cases hj
      cases hn
    · rw [List.getElem?_set_ne (Ne.symm e1)] at hj
      by_cases e : j = i
      · subst e
        rw [List.getElem?_set_self (by have := mm_so_len hs; omega)] at hj
        cases hj
        exact h'.2.2 _ List.mem_cons_self
      · rw [List.getElem?_set_ne (Ne.symm e)] at hj
        refine h'.2.2 (j, mm_cv φ w) (List.mem_cons_of_mem _ (List.mem_filter.mpr ⟨mm_as_mem hj hn, ?_⟩))
        simp only [Bool.and_eq_true, Bool.not_eq_true', beq_eq_false_iff_ne, ne_eq, Bool.and_eq_false_iff]
        refine ⟨e, e1, ?_⟩
        by_cases e2 : j + 1 = i
        · exact Or.inr (by rw [mm_cat]; exact mm_so_prev hs hj e2)
        · exact Or.inl e2
  · rcases List.mem_or_eq_of_mem_set hw with h1 | h1
    · rcases List.mem_or_eq_of_mem_set h1 with h2 | h2
      · exact h.2.2.2.2 w h2
      · rw [h2]; exact hv
    · rw [h1]; trivial
/-! the locals with which a method begins -/
theorem mm_args_mem : ∀ (vs : List Value) (k i : Nat) (v : Value), (∀ w ∈ vs, mm_ar w = true) → vs[i]? = some v → ∀ φ : Nat → Nat, (k + i, mm_cv φ v) ∈ lv_args k (vs.map (mm_cv φ))
  | [], k, i, v, _, h, _ => by simp at h
  | a :: vs, k, i, v, hc, h, φ => by
    have ha : ¬ (mm_cv φ a).category = 2 := by
      have := hc a List.mem_cons_self
      cases a <;> simp_all [mm_ar, mm_cv, Value.category]
    rw [List.map_cons, lv_args, if_neg ha]
    cases i with
    | zero =>
      simp only [List.getElem?_cons_zero, Option.some.injEq] at h
      subst h
      exact List.mem_cons_self
    | succ j =>
      rw [List.getElem?_cons_succ] at h
      have := mm_args_mem vs (k + 1) j v (fun w hw => hc w (List.mem_cons_of_mem _ hw)) h φ
      rw [show k + (j + 1) = k + 1 + j by omega]
      exact List.mem_cons_of_mem _ this
theorem mm_sl_len (φ : Nat → Nat) : ∀ vs : List Value, (∀ w ∈ vs, mm_ar w = true) → (lg_sl (vs.map (mm_cv φ))).length = vs.length
  | [], _ => rfl
  | a :: vs, hc => by
    have ha : ¬ (mm_cv φ a).category = 2 := by
      have := hc a List.mem_cons_self
      cases a <;> simp_all [mm_ar, mm_cv, Value.category]
    have ih := mm_sl_len φ vs (fun w hw => hc w (List.mem_cons_of_mem _ hw))
    unfold lg_sl at ih ⊢
    rw [List.map_cons, List.flatMap_cons, if_neg ha, List.length_append, ih]
    simp
    omega
theorem mm_LR.entry {φ : Nat → Nat} {T : mm_T} {vs : List Value} {n : Nat} (hc : ∀ w ∈ vs, mm_ar w = true) (hn : vs.length ≤ n) (hv : ∀ w ∈ vs, mm_lv T w) :
    mm_LR φ T (vs ++ List.replicate (n - vs.length) (.retAddr 0)) ((lg_sl (vs.map (mm_cv φ)) ++ List.replicate (n - (lg_sl (vs.map (mm_cv φ))).length) Slot.unset).toArray) n := by
  have h := lv_entry (vs.map (mm_cv φ)) (n := n) (by rw [mm_sl_len φ vs hc]; exact hn)
  refine ⟨h.1, by simp; omega, h.2.1, fun i v hi hr => ?_, fun v hm => ?_⟩
  · by_cases hl : i < vs.length
    · rw [List.getElem?_append_left hl] at hi
      have := mm_args_mem vs 0 i v hc hi φ
      rw [Nat.zero_add] at this
      exact h.2.2 _ this
    · rw [List.getElem?_append_right (by omega)] at hi
      have := List.mem_of_getElem? hi
      rw [List.mem_replicate] at this
      rw [this.2] at hr
      cases hr
  · rcases List.mem_append.mp hm with h1 | h1
    · exact hv v h1
    · rw [List.mem_replicate] at h1
      rw [h1.2]
      trivial
end
section
/-! What the program's tables must keep to, and that the machine of our own then tells what the Java machine does -/
def mm_CK (S : mm_S) (Y : mm_Y) (U : State) : Prop :=
  (∀ ci, ci < mm_nc S → u_Kn U (mm_ck S ci).1 (mm_ck S ci).2.1 (mm_sl S.1 ci) (Y.1.1 ci) (Y.1.2 ci)) ∧ (ArrOfT U (Y.2.1 100) .int ∧ va_RA U (Y.2.1 100) .int) ∧
  ∀ kd, (kd = 102 ∨ kd = 103) → ArrOfT U (Y.2.1 kd) (.object (mm_ck S (mm_ek S kd)).1) ∧ va_RA U (Y.2.1 kd) (.object (mm_ck S (mm_ek S kd)).1) ∧ va_AO (mm_ck S (mm_ek S kd)).1 U
theorem mm_CK.moved {S : mm_S} {Y : mm_Y} {u U : State} (hvm : u.vm.Alike U.vm) (h : mm_CK S Y u) : mm_CK S Y U :=
  ⟨fun ci hc => u_Kn_moved hvm (h.1 ci hc), ⟨arrOfT_moved hvm h.2.1.1, h.2.1.2.moved hvm⟩, fun kd hk => ⟨arrOfT_moved hvm (h.2.2 kd hk).1, (h.2.2 kd hk).2.1.moved hvm, (h.2.2 kd hk).2.2.moved hvm⟩⟩
def mm_NK (S : mm_S) (U : State) : Prop := ∀ w ∈ mm_NL S, va_Nw w U
def mm_NG (S : mm_S) : Prop := ∀ w ∈ mm_NL S, ∃ (a : String) (i : Nat) (x : MethodName) (h : String), w = Cond.methodLinkNest a i x h
theorem mm_NK.warm {S : mm_S} {s U : State} (hn : mm_NG S) (hW : s.WarmedH U.vm) (h : mm_NK S s) : mm_NK S U := by
  intro w hw
  have h1 := h w hw
  obtain ⟨a, i, x, q, rfl⟩ := hn w hw
  exact va_Nw.warmM hW h1
theorem mm_NK.same {S : mm_S} {s U : State} (hn : mm_NG S) (hW : s.vm = U.vm) (h : mm_NK S s) : mm_NK S U := by
  intro w hw
  have h1 := h w hw
  obtain ⟨a, i, x, q, rfl⟩ := hn w hw
  exact va_Nw.same rfl hW h1
def mm_dc (S : mm_S) (μ pc : Nat) (ins : Instr) (n : Nat) : Bool := decide (decode (mm_mb S μ) pc = .ok (ins, n))
def mm_fd (S : mm_S) (μ a b w i : Nat) : Bool := decide (a < mm_nc S) && (decide (b < mm_sl S.1 a) && decide ((mm_AL S)[w]? = some (Jvm.Cond.fieldLink (mm_mn S μ).cls i ((mm_ck S a).2.1 b).1 ((mm_ck S a).2.1 b).2.1 ((mm_ck S a).2.1 b).2.2.1)))
def mm_ml (S : mm_S) (μ a b w i k : Nat) : Bool := decide (a < mm_nm S) && (decide (mm_km S a = (k, b)) && decide ((mm_AL S)[w]? = some (Jvm.Cond.methodLink (mm_mn S μ).cls i (mm_mn S a))))
def mm_mn3 (S : mm_S) (μ a b w i : Nat) : Bool := decide (a < mm_nm S) && (decide (mm_km S a = (3, b)) && decide ((mm_NL S)[w]? = some (Jvm.Cond.methodLinkNest (mm_mn S μ).cls i (mm_mn S a) "StackPolicyKernel")))
def mm_ok (S : mm_S) (μ pc : Nat) (e : mm_E) : Bool := match e with
  | (ins, a, b, w) => match ins with
    | .bipush n => mm_dc S μ pc (.bipush n) 2 && decide ((Int8.ofInt n).toInt32 = Int32.ofInt n)
    | .sipush n => mm_dc S μ pc (.sipush n) 3 && decide ((Int16.ofInt n).toInt32 = Int32.ofInt n)
    | .iload i => mm_dc S μ pc (.iload i) 2
    | .aload i => mm_dc S μ pc (.aload i) 2
    | .lload i => mm_dc S μ pc (.lload i) 2
    | .istore i => mm_dc S μ pc (.istore i) 2
    | .astore i => mm_dc S μ pc (.astore i) 2
    | .lstore i => mm_dc S μ pc (.lstore i) 2
    | .iinc i n => mm_dc S μ pc (.iinc i n) 3
    | .goto o => mm_dc S μ pc (.goto o) 3 && decide ((pc : Int) + o = (a : Int))
    | .ifCond q o => mm_dc S μ pc (.ifCond q o) 3 && decide ((pc : Int) + o = (a : Int))
    | .if_icmp q o => mm_dc S μ pc (.if_icmp q o) 3 && decide ((pc : Int) + o = (a : Int))
    | .tableswitch x y z o => mm_dc S μ pc (.tableswitch x y z o) b
    | .getfield i => mm_dc S μ pc (.getfield i) 3 && mm_fd S μ a b w i
    | .putfield i => mm_dc S μ pc (.putfield i) 3 && (mm_fd S μ a b w i && (decide (((mm_ck S a).2.1 b).2.2.2 = false) || (decide (((mm_ck S a).2.1 b).2.2.2 = true) && (decide ((mm_mn S μ).name = "<init>") && decide (((mm_ck S a).2.1 b).1 = (mm_mn S μ).cls)))))
    | .new i => mm_dc S μ pc (.new i) 3 && (decide (a < mm_nc S) && decide ((mm_AL S)[w]? = some (Jvm.Cond.classLink (mm_mn S μ).cls i (mm_ck S a).1)))
    | .newarray t => mm_dc S μ pc (.newarray t) 2 && decide (t = .int)
    | .anewarray i => mm_dc S μ pc (.anewarray i) 3 && ((decide (a = 102) || decide (a = 103)) && decide ((mm_AL S)[w]? = some (Jvm.Cond.classLink (mm_mn S μ).cls i (mm_ck S (mm_ek S a)).1)))
    | .aastore => mm_dc S μ pc .aastore 1 && ((decide (a = 102) || decide (a = 103)) && (decide (b = mm_ek S a) && decide (b < mm_nc S)))
    | .invokestatic i => mm_dc S μ pc (.invokestatic i) 3 && (if a = 999 then decide ((mm_AL S)[w]? = some (Jvm.Cond.methodLink (mm_mn S μ).cls i Lib.Math.max.name)) else mm_ml S μ a b w i 0)
    | .invokevirtual i => mm_dc S μ pc (.invokevirtual i) 3 && mm_ml S μ a b w i 1
    | .invokespecial i => mm_dc S μ pc (.invokespecial i) 3 && (if a = 998 then decide ((mm_AL S)[w]? = some (Jvm.Cond.methodLink (mm_mn S μ).cls i Lib.objectInit)) else if (mm_km S a).1 = 3 then mm_mn3 S μ a b w i else mm_ml S μ a b w i 2)
    | i => mm_dc S μ pc i 1
def mm_mok (S : mm_S) (μ : Nat) : Prop :=
  (plainName (mm_mn S μ).cls = true ∧ Cond.code (mm_mn S μ) (mm_mb S μ) (mm_mx S.1 μ) (mm_mr S μ) ∈ mm_AL S ∧ Cond.initialized (mm_mn S μ).cls ∈ mm_AL S ∧ (mm_mn S μ).cls ≠ "java/lang/invoke/MethodHandle" ∧ (mm_mn S μ).cls ≠ "java/lang/invoke/VarHandle") ∧
  (mm_mx S.1 μ ≤ 8 ∧ (mm_km S μ).2 ≤ mm_mx S.1 μ) ∧ ((mm_rb S.1 μ = 0 ∧ mm_mr S μ = none) ∨ (mm_rb S.1 μ = 1 ∧ mm_mr S μ = some .int) ∨ (mm_rb S.1 μ = 2 ∧ mm_mr S μ = some .boolean)) ∧
  (((mm_km S μ).1 = 0 ∧ (parseMethodDescriptor (mm_mn S μ).desc).map (fun d => d.parameters.length) = some (mm_km S μ).2 ∧ Cond.static (mm_mn S μ) ∈ mm_AL S) ∨
   ((mm_km S μ).1 = 1 ∧ (parseMethodDescriptor (mm_mn S μ).desc).map (fun d => d.parameters.length + 1) = some (mm_km S μ).2 ∧ Cond.instanceMethod (mm_mn S μ) ∈ mm_AL S ∧ Cond.selects (mm_mn S μ).cls (mm_mn S μ) (mm_mn S μ) ∈ mm_AL S ∧ mm_rc S.1 μ < mm_nc S ∧ (mm_ck S (mm_rc S.1 μ)).1 = (mm_mn S μ).cls) ∨
   (((mm_km S μ).1 = 2 ∨ (mm_km S μ).1 = 3) ∧ (parseMethodDescriptor (mm_mn S μ).desc).map (fun d => d.parameters.length + 1) = some (mm_km S μ).2 ∧ Cond.instanceMethod (mm_mn S μ) ∈ mm_AL S ∧ (mm_mn S μ).name = "<init>"  ∧ mm_mr S μ = none))
def mm_pt (ty : FieldType) : Bool := match ty with
  | .int => true
  | .boolean => true
  | .object _ => true
  | .array _ => true
  | _ => false
def mm_cok (S : mm_S) (ci : Nat) : Prop :=
  (∀ w ∈ u_ws (mm_ck S ci).1 (mm_ck S ci).2.1 (mm_sl S.1 ci), w ∈ mm_AL S) ∧ Cond.instantiable (mm_ck S ci).1 (mm_sl S.1 ci) ∈ mm_AL S ∧ Cond.initialized (mm_ck S ci).1 ∈ mm_AL S ∧
  (∀ k, k < mm_sl S.1 ci → parseFieldDescriptor ((mm_ck S ci).2.1 k).2.2.1 = some (mm_ft S.1 ci k)) ∧ (∀ a, a < mm_sl S.1 ci → ∀ b, b < mm_sl S.1 ci → a ≠ b → ((mm_ck S ci).2.1 a).2.1 ≠ ((mm_ck S ci).2.1 b).2.1) ∧ ∀ k, k < mm_sl S.1 ci → mm_pt (mm_ft S.1 ci k) = true
def mm_Good (S : mm_S) : Prop :=
  (∀ μ pc e, mm_tb S.1 μ pc = some e → mm_ok S μ pc e = true) ∧ (∀ w ∈ mm_AL S, (w.onTables && w.keeps) = true ∨ ∃ ty, w = .arrayClass ty) ∧ (mm_nc S ≤ 100 ∧ ∀ ci, ci < mm_nc S → mm_cok S ci) ∧ ((∀ μ, μ < mm_nm S → mm_mok S μ) ∧ mm_NG S) ∧
  Cond.arrayClass .int ∈ mm_AL S ∧ (Cond.instanceMethod Lib.objectInit ∈ mm_AL S ∧ Cond.code Lib.objectInit ⟨#[0xb1]⟩ 1 none ∈ mm_AL S) ∧
  Cond.static Lib.Math.max.name ∈ mm_AL S ∧ Cond.initialized "java/lang/Math" ∈ mm_AL S ∧ Cond.code Lib.Math.max.name Lib.Math.max.code 2 (some .int) ∈ mm_AL S
def mm_Fix (S : mm_S) (Y : mm_Y) (p : Program) (R : Room) (s : State) (m : MethodId) (args : Array Value) (meth : Method) (c : Code) (μ d : Nat) : Prop :=
  p.tables.exec = Jvm.exec ∧ c.code = mm_mb S μ ∧ c.maxLocals = mm_mx S.1 μ ∧ s.vm.findClass (mm_mn S μ).cls = some m.cls ∧ (∀ w ∈ mm_AL S, w.before args s = true) ∧ meth.name = (mm_mn S μ).name ∧ mm_CK S Y s ∧ (d ≤ R.frames ∧ mm_NK S s) ∧ 27 * d ≤ R.locals
def mm_Ret (S : mm_S) (Y : mm_Y) (p : Program) (l : Launch) (e : Env) (R : Room) (s : State) (m : MethodId) (args : Array Value) (below : List Frame) (meth : Method) (c : Code) (Q : State → Prop) (μ : Nat) (φ : Nat → Nat) (T : mm_T) (r : mm_R) : Prop :=
  ∀ (φ' : Nat → Nat) (H' : Heap) (locs' : List Loc) (pcR : Nat) (lsR : Array Slot), mm_HR Y s φ' r.2.1 r.2.2.1 H' → Y.2.2 ≤ H'.size → (∀ q ∈ locs', Y.2.2 ≤ q.base) → mm_ext φ T φ' r.2.1 →
    (∀ x, r.1 = some (.int x) → (mm_rb S.1 μ = 1 ∨ mm_rb S.1 μ = 2 ∧ (x = 0 ∨ x = 1)) → decode (mm_mb S μ) pcR = .ok (.ireturn, 1) → W p l e R s m args below meth c H' locs' r.2.2.2.1 r.2.2.2.2 Q (F0 m pcR lsR [.int x])) ∧
    (r.1 = none → mm_rb S.1 μ = 0 → decode (mm_mb S μ) pcR = .ok (.return_, 1) → W p l e R s m args below meth c H' locs' r.2.2.2.1 r.2.2.2.2 Q (F0 m pcR lsR []))
theorem mm_Ret.ext {S : mm_S} {Y : mm_Y} {p : Program} {l : Launch} {e : Env} {R : Room} {s : State} {m : MethodId} {args : Array Value} {below : List Frame} {meth : Method} {c : Code} {Q : State → Prop} {μ : Nat} {φ φ1 : Nat → Nat} {T T1 : mm_T} {r : mm_R} (h : mm_Ret S Y p l e R s m args below meth c Q μ φ T r) (hE : mm_ext φ T φ1 T1) : mm_Ret S Y p l e R s m args below meth c Q μ φ1 T1 r :=
  fun φ' H' locs' pcR lsR h1 h2 h3 h4 => h φ' H' locs' pcR lsR h1 h2 h3 (hE.trans h4)
def mm_Now (S : mm_S) (Y : mm_Y) (p : Program) (l : Launch) (e : Env) (R : Room) (s : State) (m : MethodId) (args : Array Value) (below : List Frame) (meth : Method) (c : Code) (Q : State → Prop) (d μ pc : Nat) (ls st : List Value) (g : mm_M) (r : mm_R) : Prop :=
  mm_Fix S Y p R s m args meth c μ d → r.2.2.2.1 ≤ R.cells → r.2.2.2.2 ≤ R.slots → ∀ (H : Heap) (locs : List Loc) (lsA : Array Slot) (φ : Nat → Nat), mm_HR Y s φ g.1 g.2.1 H → Y.2.2 ≤ H.size → (∀ q ∈ locs, Y.2.2 ≤ q.base) → mm_LR φ g.1 ls lsA (mm_mx S.1 μ) → (∀ v ∈ st, mm_lv g.1 v) →
    mm_Ret S Y p l e R s m args below meth c Q μ φ g.1 r → W p l e R s m args below meth c H locs g.2.2.1 g.2.2.2 Q (F0 m pc lsA (st.map (mm_cv φ)))
def mm_Con (S : mm_S) (Y : mm_Y) (d μ pc : Nat) (ls st : List Value) (g : mm_M) (r : mm_R) : Prop :=
  ((g.2.2.1 ≤ r.2.2.2.1 ∧ g.2.2.2 ≤ r.2.2.2.2) ∧ (r.1 = none ∨ ∃ x, r.1 = some (.int x))) ∧ ∀ (p : Program) (l : Launch) (e : Env) (R : Room) (s : State) (m : MethodId) (args : Array Value) (below : List Frame) (meth : Method) (c : Code) (Q : State → Prop), mm_Now S Y p l e R s m args below meth c Q d μ pc ls st g r
def mm_IH (S : mm_S) (Y : mm_Y) (n : Nat) : Prop := ∀ d μ pc ls st g r, mm_run S.1 n d μ pc ls st g = some r → mm_Con S Y d μ pc ls st g r
theorem mm_one {S : mm_S} {Y : mm_Y} {n d μ pc pc' : Nat} {ls st ls' st' : List Value} {g g' : mm_M} {r : mm_R} (ih : mm_IH S Y n) (hk : mm_run S.1 n d μ pc' ls' st' g' = some r) (h1 : g.2.2.1 ≤ g'.2.2.1) (h2 : g.2.2.2 ≤ g'.2.2.2)
    (hstep : ∀ (p : Program) (l : Launch) (e : Env) (R : Room) (s : State) (m : MethodId) (args : Array Value) (below : List Frame) (meth : Method) (c : Code) (Q : State → Prop), g'.2.2.1 ≤ r.2.2.2.1 → g'.2.2.2 ≤ r.2.2.2.2 → mm_Now S Y p l e R s m args below meth c Q d μ pc' ls' st' g' r → mm_Now S Y p l e R s m args below meth c Q d μ pc ls st g r) : mm_Con S Y d μ pc ls st g r := by
  obtain ⟨⟨⟨a1, a2⟩, a3⟩, a4⟩ := ih _ _ _ _ _ _ _ hk
  exact ⟨⟨⟨Nat.le_trans h1 a1, Nat.le_trans h2 a2⟩, a3⟩, fun p l e R s m args below meth c Q => hstep p l e R s m args below meth c Q a1 a2 (a4 p l e R s m args below meth c Q)⟩
theorem mm_i1_some {st : List Value} {k : Int32 → List Value → Option mm_R} {r : mm_R} (h : mm_i1 st k = some r) : ∃ x t, st = .int x :: t ∧ k x t = some r := by
  unfold mm_i1 at h
  split at h
  · exact ⟨_, _, rfl, h⟩
  · cases h
theorem mm_i2_some {st : List Value} {k : Int32 → Int32 → List Value → Option mm_R} {r : mm_R} (h : mm_i2 st k = some r) : ∃ x y t, st = .int y :: .int x :: t ∧ k x y t = some r := by
  unfold mm_i2 at h
  split at h
  · exact ⟨_, _, _, rfl, h⟩
  · cases h
theorem mm_l1_some {st : List Value} {k : Int64 → List Value → Option mm_R} {r : mm_R} (h : mm_l1 st k = some r) : ∃ x t, st = .long x :: t ∧ k x t = some r := by
  unfold mm_l1 at h
  split at h
  · exact ⟨_, _, rfl, h⟩
  · cases h
theorem mm_l2_some {st : List Value} {k : Int64 → Int64 → List Value → Option mm_R} {r : mm_R} (h : mm_l2 st k = some r) : ∃ x y t, st = .long y :: .long x :: t ∧ k x y t = some r := by
  unfold mm_l2 at h
  split at h
  · exact ⟨_, _, _, rfl, h⟩
  · cases h
theorem mm_r1_some {st : List Value} {k : Nat → List Value → Option mm_R} {r : mm_R} (h : mm_r1 st k = some r) : ∃ x t, st = .ref x :: t ∧ k x t = some r := by
  unfold mm_r1 at h
  split at h
  · exact ⟨_, _, rfl, h⟩
  · cases h
theorem mm_vr_some {st : List Value} {k : Value → Nat → List Value → Option mm_R} {r : mm_R} (h : mm_vr st k = some r) : ∃ v x t, st = v :: .ref x :: t ∧ k v x t = some r := by
  unfold mm_vr at h
  split at h
  · exact ⟨_, _, _, rfl, h⟩
  · cases h
theorem mm_ir_some {st : List Value} {k : Int32 → Nat → List Value → Option mm_R} {r : mm_R} (h : mm_ir st k = some r) : ∃ j x t, st = .int j :: .ref x :: t ∧ k j x t = some r := by
  unfold mm_ir at h
  split at h
  · exact ⟨_, _, _, rfl, h⟩
  · cases h
theorem mm_iir_some {st : List Value} {k : Int32 → Int32 → Nat → List Value → Option mm_R} {r : mm_R} (h : mm_iir st k = some r) : ∃ v j x t, st = .int v :: .int j :: .ref x :: t ∧ k v j x t = some r := by
  unfold mm_iir at h
  split at h
  · exact ⟨_, _, _, _, rfl, h⟩
  · cases h
theorem mm_rir_some {st : List Value} {k : Nat → Int32 → Nat → List Value → Option mm_R} {r : mm_R} (h : mm_rir st k = some r) : ∃ v j x t, st = .ref v :: .int j :: .ref x :: t ∧ k v j x t = some r := by
  unfold mm_rir at h
  split at h
  · exact ⟨_, _, _, _, rfl, h⟩
  · cases h
theorem mm_v1_some {st : List Value} {k : Value → List Value → Option mm_R} {r : mm_R} (h : mm_v1 st k = some r) : ∃ v t, st = v :: t ∧ k v t = some r := by
  unfold mm_v1 at h
  split at h
  · exact ⟨_, _, rfl, h⟩
  · cases h
theorem mm_v2_some {st : List Value} {k : Value → Value → List Value → Option mm_R} {r : mm_R} (h : mm_v2 st k = some r) : ∃ v w t, st = v :: w :: t ∧ k v w t = some r := by
  unfold mm_v2 at h
  split at h
  · exact ⟨_, _, _, rfl, h⟩
  · cases h
theorem mm_oi_some {v : Value} {k : Int32 → Option mm_R} {r : mm_R} (h : mm_oi v k = some r) : ∃ x, v = .int x ∧ k x = some r := by
  unfold mm_oi at h
  split at h
  · exact ⟨_, rfl, h⟩
  · cases h
theorem mm_or_some {v : Value} {k : Nat → Option mm_R} {r : mm_R} (h : mm_or v k = some r) : ∃ x, v = .ref x ∧ k x = some r := by
  unfold mm_or at h
  split at h
  · exact ⟨_, rfl, h⟩
  · cases h
theorem mm_ol_some {v : Value} {k : Int64 → Option mm_R} {r : mm_R} (h : mm_ol v k = some r) : ∃ x, v = .long x ∧ k x = some r := by
  unfold mm_ol at h
  split at h
  · exact ⟨_, rfl, h⟩
  · cases h
theorem mm_in_some {o : Option (Nat × Nat)} {lo hi : Nat} {j : Int32} (h : mm_in o lo hi j = true) : ∃ kd len, o = some (kd, len) ∧ lo ≤ kd ∧ kd ≤ hi ∧ ¬ j < 0 ∧ j.toNatClampNeg < len := by
  unfold mm_in at h
  split at h
  · obtain ⟨h1, h2, h3, h4⟩ := of_decide_eq_true h
    exact ⟨_, _, rfl, h1, h2, Int32.not_lt.mpr h3, h4⟩
  · cases h
theorem mm_ln_some {o : Option (Nat × Nat)} {k : Nat → Option mm_R} {r : mm_R} (h : mm_ln o k = some r) : ∃ kd len, o = some (kd, len) ∧ 100 ≤ kd ∧ kd ≤ 103 ∧ k len = some r := by
  unfold mm_ln at h
  split at h
  · split at h
    · rename_i h1
      exact ⟨_, _, rfl, h1.1, h1.2, h⟩
    · cases h
  · cases h
theorem mm_go_some {o : Option Int} {pc : Nat} {k : Nat → Option mm_R} {r : mm_R} (h : mm_go o pc k = some r) : ∃ (off : Int) (t : Nat), o = some off ∧ (pc : Int) + off = (t : Int) ∧ k t = some r := by
  unfold mm_go at h
  split at h
  · split at h
    · rename_i h1
      exact ⟨_, _, rfl, (Int.toNat_of_nonneg h1).symm, h⟩
    · cases h
  · cases h
theorem mm_if_some {c : Prop} {a : Option mm_R} {r : mm_R} {i : Decidable c} (h : @ite _ c i a none = some r) : c ∧ a = some r := by
  by_cases hc : c
  · rw [if_pos hc] at h
    exact ⟨hc, h⟩
  · rw [if_neg hc] at h
    cases h
theorem mm_if_none {c : Prop} {a : Option mm_R} {r : mm_R} {i : Decidable c} (h : @ite _ c i none a = some r) : ¬ c ∧ a = some r := by
  by_cases hc : c
  · rw [if_pos hc] at h
    cases h
  · rw [if_neg hc] at h
    exact ⟨hc, h⟩
theorem mm_cc {T : mm_T} {v : Value} {l : List Value} (hv : mm_lv T v) (h : ∀ w ∈ l, mm_lv T w) : ∀ w ∈ v :: l, mm_lv T w := List.forall_mem_cons.mpr ⟨hv, h⟩
theorem mm_t1 {T : mm_T} {v : Value} {l : List Value} (h : ∀ w ∈ v :: l, mm_lv T w) : ∀ w ∈ l, mm_lv T w := (List.forall_mem_cons.mp h).2
theorem mm_h1 {T : mm_T} {v : Value} {l : List Value} (h : ∀ w ∈ v :: l, mm_lv T w) : mm_lv T v := (List.forall_mem_cons.mp h).1
theorem mm_catsum : ∀ l : List Value, (l.map fun v => v.category).sum ≤ 2 * l.length
  | [] => Nat.le_refl _
  | v :: l => by
    have := mm_catsum l
    have h2 : v.category ≤ 2 := by rcases lv_cat v with h | h <;> omega
    rw [List.map_cons, List.sum_cons, List.length_cons]
    omega
theorem mm_cv_def (φ : Nat → Nat) (ty : FieldType) : mm_cv φ (defaultValue ty) = defaultValue ty := by cases ty <;> rfl
theorem mm_lv_def (T : mm_T) (ty : FieldType) : mm_lv T (defaultValue ty) := by cases ty <;> trivial
theorem mm_fits_nar {ty : FieldType} {v : Value} (h : fits ty v = true) (hn : mm_pt ty = true) : narrow ty v = v := by
  cases ty with
  | boolean =>
    cases v with
    | int x =>
      simp only [fits, Bool.or_eq_true, beq_iff_eq] at h
      rcases h with rfl | rfl <;> rfl
    | _ => rfl
  | byte => cases hn
  | char => cases hn
  | short => cases hn
  | _ => rfl
theorem mm_fits_cv {ty : FieldType} {v : Value} {φ : Nat → Nat} (h : fits ty v = true) : fits ty (mm_cv φ v) = true := by
  cases v with
  | ref a => cases ty <;> first | exact h | rfl
  | _ => exact h
end
section
/-! cells that change -/
theorem mm_OB {S : mm_S} {Y : mm_Y} {U : State} {φ : Nat → Nat} {T : mm_T} {V : mm_V} {H : Heap} (hG : mm_nc S ≤ 100) (h : mm_HR Y U φ T V H) {x a len : Nat} (ha : a < mm_nc S) (hT : T x = some (a, len)) : t_OB (φ x) (Y.1.1 a) len (Y.1.2 a) H (fun k => mm_cv φ (V x k)) := by
  have h1 := (h.1 x a len hT).1
  unfold mm_cell at h1
  rw [if_pos (by omega)] at h1
  exact h1
theorem mm_AR {Y : mm_Y} {U : State} {φ : Nat → Nat} {T : mm_T} {V : mm_V} {H : Heap} (h : mm_HR Y U φ T V H) {x a len : Nat} (ha : 100 ≤ a) (ha' : a ≠ 101) (hT : T x = some (a, len)) : H[φ x]? = some (arrV (Y.2.1 a) len (fun j => mm_cv φ (V x j))) := by
  have h1 := (h.1 x a len hT).1
  unfold mm_cell at h1
  rw [if_neg (by omega), if_neg ha'] at h1
  exact h1
theorem mm_SC {Y : mm_Y} {U : State} {φ : Nat → Nat} {T : mm_T} {V : mm_V} {H : Heap} (h : mm_HR Y U φ T V H) {x len : Nat} (hT : T x = some (101, len)) : ∃ scr : Cell, H[φ x]? = some scr ∧ U.isArrayOf scr .int ∧ scr.vm ≠ .unknown ∧ scr.slots.size = len ∧ ∀ j : Nat, j < len → scr.slots[j]? = some (mm_cv φ (V x j)) := by
  have h1 := (h.1 x 101 len hT).1
  unfold mm_cell at h1
  rw [if_neg (by decide), if_pos rfl] at h1
  exact h1
theorem mm_cv_up {φ : Nat → Nat} {V : mm_V} {x k : Nat} {v : Value} (j : Nat) : mm_cv φ (mm_up V x k v x j) = updV (fun j => mm_cv φ (V x j)) k (mm_cv φ v) j := by
  unfold mm_up updV
  by_cases e : j = k
  · rw [if_pos ⟨rfl, e⟩, if_pos e]
  · rw [if_neg (fun q => e q.2), if_neg e]
/-- an array's cell behind a store -/
theorem mm_AR.put {Y : mm_Y} {U : State} {φ : Nat → Nat} {T : mm_T} {V : mm_V} {H H' : Heap} (h : mm_HR Y U φ T V H) {x a len k : Nat} {v : Value} (ha : 100 ≤ a) (ha' : a ≠ 101) (hT : T x = some (a, len)) (hv : mm_lv T v) (e1 : H'[φ x]? = some ((arrV (Y.2.1 a) len (fun j => mm_cv φ (V x j))).setSlot k (mm_cv φ v))) (hsz : H'.size = H.size) (hoff : ∀ q, q ≠ φ x → H'[q]? = H[q]?) : mm_HR Y U φ T (mm_up V x k v) H' := by
  refine h.put hT hv hsz hoff ?_
  unfold mm_cell
  rw [if_neg (by omega), if_neg ha', e1, arrV_store]
  exact congrArg some (mm_arrV_ext fun j _ => (mm_cv_up j).symm)
theorem mm_apart {S : mm_S} {Y : mm_Y} {s : State} {args : Array Value} {a : Nat} (hts : ∀ w ∈ mm_AL S, w.before args s = true) (hc : mm_cok S a) (hK : u_Kn s (mm_ck S a).1 (mm_ck S a).2.1 (mm_sl S.1 a) (Y.1.1 a) (Y.1.2 a)) : ∀ x y, x < mm_sl S.1 a → y < mm_sl S.1 a → x ≠ y → (Y.1.2 a) x ≠ (Y.1.2 a) y := by
  intro x y hx hy hne
  obtain ⟨hS, -⟩ := hK
  obtain ⟨hw, -, -, hty, hnm, -⟩ := hc
  obtain ⟨_, _, _, fa, hia, ea⟩ := hS x hx
  obtain ⟨_, _, _, fb, hib, eb⟩ := hS y hy
  rw [← ea, ← eb]
  refine u_apart (u_lays hts hw hx) (u_lays hts hw hy) hia hib ?_
  rw [(State.fieldFound?_type hia (hty x hx)).1, (State.fieldFound?_type hib (hty y hy)).1]
  exact hnm x hx y hy hne
section MMW
variable {S : mm_S} {Y : mm_Y} {p : Program} {l : Launch} {e : Env} {R : Room} {s : State} {m : MethodId} {args : Array Value} {below : List Frame} {meth : Method} {c : Code} {H : Heap} {locs : List Loc} {cells slots : Nat} {Q : State → Prop} {μ d pc : Nat} {lsA : Array Slot} {rest : List Value} {φ : Nat → Nat} {T : mm_T} {V : mm_V}
theorem mm_Wget (hG : mm_Good S) (hF : mm_Fix S Y p R s m args meth c μ d) (hHR : mm_HR Y s φ T V H) {x a b w i : Nat} (hd : decode (mm_mb S μ) pc = .ok (.getfield i, 3)) (hf : mm_fd S μ a b w i = true) (hT : T x = some (a, mm_sl S.1 a))
    (kk : W p l e R s m args below meth c H locs cells slots Q (F0 m (pc + 3) lsA (mm_cv φ (V x b) :: rest))) : W p l e R s m args below meth c H locs cells slots Q (F0 m pc lsA (.ref (φ x) :: rest)) := by
  unfold mm_fd at hf
  simp only [Bool.and_eq_true, decide_eq_true_eq] at hf
  obtain ⟨ha, hb, hw⟩ := hf
  obtain ⟨hx, hbb, hml, hown, hts, hin, hCK, -, -⟩ := hF
  obtain ⟨hwc, -, -, hty, hnm, -⟩ := hG.2.2.1.2 a ha
  obtain ⟨cell, q1, q2, q3, q4⟩ := mm_OB hG.2.2.1.1 hHR ha hT
  obtain ⟨hS, hfc, kC, hkC, hkind⟩ := hCK.1 a ha
  obtain ⟨cf, kf, fi, f, hi, hsl⟩ := hS b hb
  refine W.getf hx hbb hown (hts _ (List.mem_of_getElem? hw)) hi (u_facts hfc hkC (u_lays hts hwc hb) hi).1 q1 (by rw [q3]; exact fun h => by cases h) (v := mm_cv φ (V x b)) ?_ rfl rfl hd kk
  rw [hsl]
  exact q4 b hb
theorem mm_Wput (hG : mm_Good S) (hF : mm_Fix S Y p R s m args meth c μ d) (hHR : mm_HR Y s φ T V H) {x a b w i : Nat} {v : Value} (hd : decode (mm_mb S μ) pc = .ok (.putfield i, 3)) (hf : mm_fd S μ a b w i = true)
    (hfin : ((mm_ck S a).2.1 b).2.2.2 = false ∨ (((mm_ck S a).2.1 b).2.2.2 = true ∧ (mm_mn S μ).name = "<init>" ∧ ((mm_ck S a).2.1 b).1 = (mm_mn S μ).cls)) (hT : T x = some (a, mm_sl S.1 a)) (hfit : fits (mm_ft S.1 a b) v = true) (hv : mm_lv T v)
    (kk : ∀ (H1 : Heap) (k : Nat), mm_HR Y s φ T (mm_up V x b v) H1 → H1.size = H.size → W p l e R s m args below meth c H1 (locs ++ [⟨φ x, k⟩]) cells slots Q (F0 m (pc + 3) lsA rest)) : W p l e R s m args below meth c H locs cells slots Q (F0 m pc lsA (mm_cv φ v :: .ref (φ x) :: rest)) := by
  unfold mm_fd at hf
  simp only [Bool.and_eq_true, decide_eq_true_eq] at hf
  obtain ⟨ha, hb, hw⟩ := hf
  obtain ⟨hx, hbb, hml, hown, hts, hin, hCK, -, -⟩ := hF
  have hcok := hG.2.2.1.2 a ha
  have hK := hCK.1 a ha
  have hap := mm_apart (Y := Y) hts hcok hK
  obtain ⟨hwc, -, -, hty, hnm, hpt⟩ := hcok
  obtain ⟨cell, q1, q2, q3, q4⟩ := mm_OB hG.2.2.1.1 hHR ha hT
  obtain ⟨hS, hfc, kC, hkC, hkind⟩ := hK
  obtain ⟨cf, kf, fi, f, hi, hsl⟩ := hS b hb
  have hlay := hts _ (hwc _ (u_in_lay hb))
  have hst := (u_facts hfc hkC (u_lays hts hwc hb) hi).1
  have hn : narrow (mm_ft S.1 a b) (mm_cv φ v) = mm_cv φ v := mm_fits_nar (mm_fits_cv hfit) (hpt b hb)
  have key : ∀ H' : Heap, H'[φ x]? = some (cell.setSlot f.slot (mm_cv φ v)) → H'.size = H.size → (∀ q, q ≠ φ x → H'[q]? = H[q]?) → W p l e R s m args below meth c H' (locs ++ [⟨φ x, f.slot⟩]) cells slots Q (F0 m (pc + 3) lsA rest) := by
    intro H' e1 e2 e3
    refine kk H' _ (hHR.put hT hv e2 e3 ?_) e2
    unfold mm_cell
    rw [if_pos (by have := hG.2.2.1.1; omega)]
    rw [hsl] at e1
    exact t_OB.to (V := updV (fun k => mm_cv φ (V x k)) b (mm_cv φ v)) ⟨_, e1, q2, q3, t_set q4 hap hb (mm_cv φ v)⟩ (fun j _ => (mm_cv_up j).symm)
  unfold u_lay at hlay
  rcases hfin with h0 | ⟨h0, h1, h2⟩
  · rw [if_neg (by rw [h0]; decide)] at hlay
    have h6 := u_store hfc hkC hkind hlay hi (hty b hb) hn (mm_fits_cv hfit)
    exact W.putK hx hbb (f := f) ⟨hown, hts _ (List.mem_of_getElem? hw), ⟨_, _, _, hi⟩, hst⟩ (by rw [q2]; exact h6) q1 q3 (by rw [hsl]; exact k2_hasslot (q4 b hb)) rfl rfl hd key
  · rw [if_pos h0] at hlay
    have hcf : m.cls = cf := by
      obtain ⟨_, _, c', _, _, _, -, -, hf', -, -, -, hown2, -⟩ := Cond.laysFinal_spec hlay
      have e1 : c' = cf := by have := hi.symm.trans hf'; simp at this; exact this.1.symm
      rw [h2] at hown2
      rw [← e1]; exact Option.some.inj (hown.symm.trans hown2)
    have h6 := u_fits hfc hkC hkind (Or.inr hlay) hi (hty b hb) hn (mm_fits_cv hfit)
    exact W.putFinK hx hbb hown (hts _ (List.mem_of_getElem? hw)) hi hst hcf (hin.trans h1) (by rw [q2]; exact h6) q1 q3 (by rw [hsl]; exact k2_hasslot (q4 b hb)) rfl rfl hd key
theorem mm_Wnew (hG : mm_Good S) (hF : mm_Fix S Y p R s m args meth c μ d) (hHR : mm_HR Y s φ T V H) (hB : Y.2.2 ≤ H.size) {x a w i : Nat} (hd : decode (mm_mb S μ) pc = .ok (.new i, 3)) (ha : a < mm_nc S) (hw : (mm_AL S)[w]? = some (Jvm.Cond.classLink (mm_mn S μ).cls i (mm_ck S a).1)) (hT : T x = none) (hc : cells + 1 ≤ R.cells) (hs : slots + mm_sl S.1 a ≤ R.slots)
    (kk : ∀ H1 : Heap, mm_HR Y s (mm_fu φ x H.size) (mm_alT T x a (mm_sl S.1 a)) (mm_alV V x fun k => defaultValue (mm_ft S.1 a k)) H1 → H1.size = H.size + 1 → W p l e R s m args below meth c H1 locs (cells + 1) (slots + mm_sl S.1 a) Q (F0 m (pc + 3) lsA (.ref H.size :: rest))) : W p l e R s m args below meth c H locs cells slots Q (F0 m pc lsA rest) := by
  obtain ⟨hx, hbb, hml, hown, hts, hin, hCK, -, -⟩ := hF
  obtain ⟨hwc, hinst, hini, hty, hnm, hpt⟩ := hG.2.2.1.2 a ha
  have hKn := hCK.1 a ha
  refine W.newcK hx hbb hown (hts _ (List.mem_of_getElem? hw)) (hts _ hinst) (hts _ hini) rfl hd hc hs hKn.2.1 rfl fun H1 kC hkC e1 z1 o1 => ?_
  refine kk H1 (hHR.new hT z1 o1 hB (fun k => mm_lv_def T _) ?_) z1
  unfold mm_cell
  rw [if_pos (by have := hG.2.2.1.1; omega), show mm_fu φ x H.size x = H.size by unfold mm_fu; rw [if_pos rfl]]
  refine (u_born (mm_ft S.1 a) hts hwc hKn hkC e1 hty).to fun k _ => ?_
  show _ = mm_cv _ (mm_alV V x (fun k => defaultValue (mm_ft S.1 a k)) x k)
  unfold mm_alV
  rw [if_pos rfl, mm_cv_def]
theorem mm_Wnewa (hG : mm_Good S) (hF : mm_Fix S Y p R s m args meth c μ d) (hHR : mm_HR Y s φ T V H) (hB : Y.2.2 ≤ H.size) {x : Nat} {n : Int32} (hd : decode (mm_mb S μ) pc = .ok (.newarray .int, 2)) (hT : T x = none) (hn : ¬ n < 0) (hN : n.toNatClampNeg ≤ 1000) (hc : cells + 1 ≤ R.cells) (hs : slots + n.toNatClampNeg ≤ R.slots)
    (kk : ∀ H1 : Heap, mm_HR Y s (mm_fu φ x H.size) (mm_alT T x 100 n.toNatClampNeg) (mm_alV V x fun _ => .int 0) H1 → H1.size = H.size + 1 → W p l e R s m args below meth c H1 locs (cells + 1) (slots + n.toNatClampNeg) Q (F0 m (pc + 2) lsA (.ref H.size :: rest))) : W p l e R s m args below meth c H locs cells slots Q (F0 m pc lsA (.int n :: rest)) := by
  obtain ⟨hx, hbb, hml, hown, hts, hin, hCK, -, -⟩ := hF
  refine va_newaK (atype := .int) hx hbb (hts _ hG.2.2.2.2.1) rfl hd rfl hn rfl (Nat.le_trans (Nat.mul_le_mul_right _ hN) (by decide)) hc hs rfl fun H1 cA e1 z1 o1 hAr hNm => ?_
  have hcA : Y.2.1 100 = cA := Option.some.inj ((show s.vm.findClass _ = some (Y.2.1 100) from hCK.2.1.2).symm.trans hNm)
  refine kk H1 (hHR.new hT z1 o1 hB (fun k => trivial) ?_) z1
  unfold mm_cell
  rw [if_neg (by decide), if_neg (by decide), show mm_fu φ x H.size x = H.size by unfold mm_fu; rw [if_pos rfl], e1, hcA]
  refine congrArg some (mm_arrV_ext fun j _ => ?_)
  unfold mm_alV
  rw [if_pos rfl]
  rfl
theorem mm_Wnewq (hG : mm_Good S) (hF : mm_Fix S Y p R s m args meth c μ d) (hHR : mm_HR Y s φ T V H) (hB : Y.2.2 ≤ H.size) {x a w i : Nat} {n : Int32} (hd : decode (mm_mb S μ) pc = .ok (.anewarray i, 3)) (ha : a = 102 ∨ a = 103) (hw : (mm_AL S)[w]? = some (Jvm.Cond.classLink (mm_mn S μ).cls i (mm_ck S (mm_ek S a)).1)) (hT : T x = none) (hn : ¬ n < 0) (hN : n.toNatClampNeg ≤ 1000) (hc : cells + 1 ≤ R.cells) (hs : slots + n.toNatClampNeg ≤ R.slots)
    (kk : ∀ H1 : Heap, mm_HR Y s (mm_fu φ x H.size) (mm_alT T x a n.toNatClampNeg) (mm_alV V x fun _ => .null) H1 → H1.size = H.size + 1 → W p l e R s m args below meth c H1 locs (cells + 1) (slots + n.toNatClampNeg) Q (F0 m (pc + 3) lsA (.ref H.size :: rest))) : W p l e R s m args below meth c H locs cells slots Q (F0 m pc lsA (.int n :: rest)) := by
  obtain ⟨hx, hbb, hml, hown, hts, hin, hCK, -, -⟩ := hF
  obtain ⟨hAr, hRA, hAO⟩ := hCK.2.2 a ha
  refine W.anew hx hbb hown (hts _ (List.mem_of_getElem? hw)) (va_AO.use hAO) rfl hd rfl hn (by omega) hc hs fun cA kA comp f1 f2 f3 f4 => ?_
  have hcA : Y.2.1 a = cA := by
    obtain ⟨_, _, _, _, _, k4⟩ := hRA
    exact Option.some.inj (k4.symm.trans f1)
  refine kk _ (hHR.new hT (by rw [Array.size_push]) (fun q hq => by rw [Array.getElem?_push, if_neg (Nat.ne_of_lt hq)]) hB (fun k => trivial) ?_) (by rw [Array.size_push])
  unfold mm_cell
  rw [if_neg (by omega), if_neg (by omega), show mm_fu φ x H.size x = H.size by unfold mm_fu; rw [if_pos rfl], Array.getElem?_push_size, arrV_new, hcA]
  refine congrArg some (mm_arrV_ext fun j _ => ?_)
  unfold mm_alV
  rw [if_pos rfl]
  rfl
theorem mm_Wiald (hF : mm_Fix S Y p R s m args meth c μ d) (hHR : mm_HR Y s φ T V H) {x : Nat} {j : Int32} (hd : decode (mm_mb S μ) pc = .ok (.iaload, 1)) (hi : mm_in (T x) 100 101 j = true)
    (kk : W p l e R s m args below meth c H locs cells slots Q (F0 m (pc + 1) lsA (mm_cv φ (V x j.toNatClampNeg) :: rest))) : W p l e R s m args below meth c H locs cells slots Q (F0 m pc lsA (.int j :: .ref (φ x) :: rest)) := by
  obtain ⟨hx, hbb, hml, hown, hts, hin, hCK, -, -⟩ := hF
  obtain ⟨kd, len, hT, h1, h2, h3, h4⟩ := mm_in_some hi
  by_cases e1 : kd = 101
  · subst e1
    obtain ⟨scr, q1, q2, q3, q4, q5⟩ := mm_SC hHR hT
    exact W.iald hx hbb q1 q2 q3 (by rw [q4]; exact fun q => q.elim h3 (fun z => by omega)) (q5 _ h4) rfl rfl hd kk
  · have e2 : kd = 100 := by omega
    subst e2
    exact W.iald hx hbb (mm_AR hHR (by decide) (by decide) hT) (hCK.2.1.1 _ _) (fun q => by cases q) (by rw [arrV_size]; exact fun q => q.elim h3 (fun z => by omega)) (arrV_read _ _ h4) rfl rfl hd kk
theorem mm_Waald (hF : mm_Fix S Y p R s m args meth c μ d) (hHR : mm_HR Y s φ T V H) {x : Nat} {j : Int32} (hd : decode (mm_mb S μ) pc = .ok (.aaload, 1)) (hi : mm_in (T x) 102 103 j = true)
    (kk : W p l e R s m args below meth c H locs cells slots Q (F0 m (pc + 1) lsA (mm_cv φ (V x j.toNatClampNeg) :: rest))) : W p l e R s m args below meth c H locs cells slots Q (F0 m pc lsA (.int j :: .ref (φ x) :: rest)) := by
  obtain ⟨hx, hbb, hml, hown, hts, hin, hCK, -, -⟩ := hF
  obtain ⟨kd, len, hT, h1, h2, h3, h4⟩ := mm_in_some hi
  exact W.aald (ty := .object (mm_ck S (mm_ek S kd)).1) hx hbb (mm_AR hHR (by omega) (by omega) hT) ((hCK.2.2 kd (by omega)).1 _ _) rfl (fun q => by cases q) (by rw [arrV_size]; exact fun q => q.elim h3 (fun z => by omega)) (arrV_read _ _ h4) rfl rfl hd kk
theorem mm_Walen (hF : mm_Fix S Y p R s m args meth c μ d) (hHR : mm_HR Y s φ T V H) {x kd len : Nat} (hd : decode (mm_mb S μ) pc = .ok (.arraylength, 1)) (hT : T x = some (kd, len)) (h1 : 100 ≤ kd) (h2 : kd ≤ 103)
    (kk : W p l e R s m args below meth c H locs cells slots Q (F0 m (pc + 1) lsA (.int (Int32.ofNat len) :: rest))) : W p l e R s m args below meth c H locs cells slots Q (F0 m pc lsA (.ref (φ x) :: rest)) := by
  obtain ⟨hx, hbb, hml, hown, hts, hin, hCK, -, -⟩ := hF
  by_cases e1 : kd = 101
  · subst e1
    obtain ⟨scr, q1, q2, q3, q4, q5⟩ := mm_SC hHR hT
    exact W.alen hx hbb q1 q2 (by rw [q4] <;> rfl) rfl rfl hd kk
  · by_cases e2 : kd = 100
    · subst e2
      exact W.alen hx hbb (mm_AR hHR (by decide) (by decide) hT) (hCK.2.1.1 _ _) (by rw [arrV_size] <;> rfl) rfl rfl hd kk
    · exact W.alen hx hbb (mm_AR hHR (by omega) (by omega) hT) ((hCK.2.2 kd (by omega)).1 _ _) (by rw [arrV_size] <;> rfl) rfl rfl hd kk
theorem mm_Wiast (hF : mm_Fix S Y p R s m args meth c μ d) (hHR : mm_HR Y s φ T V H) {x : Nat} {j v : Int32} (hd : decode (mm_mb S μ) pc = .ok (.iastore, 1)) (hi : mm_in (T x) 100 100 j = true)
    (kk : ∀ (H1 : Heap) (k : Nat), mm_HR Y s φ T (mm_up V x j.toNatClampNeg (.int v)) H1 → H1.size = H.size → W p l e R s m args below meth c H1 (locs ++ [⟨φ x, k⟩]) cells slots Q (F0 m (pc + 1) lsA rest)) : W p l e R s m args below meth c H locs cells slots Q (F0 m pc lsA (.int v :: .int j :: .ref (φ x) :: rest)) := by
  obtain ⟨hx, hbb, hml, hown, hts, hin, hCK, -, -⟩ := hF
  obtain ⟨kd, len, hT, h1, h2, h3, h4⟩ := mm_in_some hi
  have e2 : kd = 100 := by omega
  subst e2
  exact W.iast hx hbb (mm_AR hHR (by decide) (by decide) hT) (hCK.2.1.1 _ _) (fun q => by cases q) (by rw [arrV_size]; exact fun q => q.elim h3 (fun z => by omega)) rfl rfl hd fun H1 e1 z1 o1 => kk H1 _ (mm_AR.put (v := .int v) hHR (by decide) (by decide) hT trivial e1 z1 o1) z1
theorem mm_Waast (hG : mm_Good S) (hF : mm_Fix S Y p R s m args meth c μ d) (hHR : mm_HR Y s φ T V H) {x v a b : Nat} {j : Int32} (hd : decode (mm_mb S μ) pc = .ok (.aastore, 1)) (ha : a = 102 ∨ a = 103) (hb : b = mm_ek S a) (hbn : b < mm_nc S) (hi : mm_in (T x) a a j = true) (hv : T v = some (b, mm_sl S.1 b))
    (kk : ∀ (H1 : Heap) (k : Nat), mm_HR Y s φ T (mm_up V x j.toNatClampNeg (.ref v)) H1 → H1.size = H.size → W p l e R s m args below meth c H1 (locs ++ [⟨φ x, k⟩]) cells slots Q (F0 m (pc + 1) lsA rest)) : W p l e R s m args below meth c H locs cells slots Q (F0 m pc lsA (.ref (φ v) :: .int j :: .ref (φ x) :: rest)) := by
  obtain ⟨hx, hbb, hml, hown, hts, hin, hCK, -, -⟩ := hF
  obtain ⟨kd, len, hT, h1, h2, h3, h4⟩ := mm_in_some hi
  have e2 : kd = a := by omega
  subst e2
  obtain ⟨cellV, g1, g2, g3, -⟩ := mm_OB hG.2.2.1.1 hHR hbn hv
  have hcls := (hCK.1 b hbn).2
  obtain ⟨-, hRA, -⟩ := hCK.2.2 kd ha
  rw [← hb] at hRA
  obtain ⟨kA, comp, k1, k2, k3, -⟩ := hRA
  have hcomp : comp = Y.1.1 b := Option.some.inj (k3.symm.trans hcls.1)
  subst hcomp
  have hasg := va_assign hcls
  obtain ⟨kC, hkC, -⟩ := hcls.2
  exact W.aast hx hbb (mm_AR hHR (by omega) (by omega) hT) (fun q h => by cases h) (fun h => by cases h) k1 k2 rfl hkC ⟨h3, by rw [arrV_size]; exact h4⟩ g1 (fun q h => by rw [g3] at h; cases h) (by rw [g2]; exact hkC) (by rw [g2]; exact hasg) rfl rfl hd fun H1 e1 z1 o1 => kk H1 _ (mm_AR.put (v := .ref v) hHR (by omega) (by omega) hT (by show T v ≠ none; rw [hv]; exact fun z => by cases z) e1 z1 o1) z1
end MMW
end
section
/-! calls -/
def mm_Pc (S : mm_S) (Y : mm_Y) (φ : Nat → Nat) (T : mm_T) (V : mm_V) (vs : List Value) : Array Value → State → Prop := fun a U => a = (vs.map (mm_cv φ)).toArray ∧ mm_HR Y U φ T V U.heap ∧ Y.2.2 ≤ U.heap.size ∧ mm_CK S Y U ∧ mm_NK S U
def mm_Qc (Y : mm_Y) (φ : Nat → Nat) (T : mm_T) (r : mm_R) : Array Value → State → Outcome → State → Prop := fun _ _ o t => ∃ φ' : Nat → Nat, o = .returned r.1 ∧ mm_HR Y t φ' r.2.1 r.2.2.1 t.heap ∧ Y.2.2 ≤ t.heap.size ∧ mm_ext φ T φ' r.2.1
abbrev mm_rm (d : Nat) (r : mm_R) : Room := { frames := d, cells := r.2.2.2.1, slots := r.2.2.2.2, locals := 27 * d }
abbrev mm_ws (S : mm_S) (μ : Nat) : List Cond := Cond.code (mm_mn S μ) (mm_mb S μ) (mm_mx S.1 μ) (mm_mr S μ) :: mm_AL S
theorem mm_met {S : mm_S} {Y : mm_Y} {n d μ : Nat} {vs : List Value} {T : mm_T} {V : mm_V} {r : mm_R} (φ : Nat → Nat) (hG : mm_Good S) (ih : mm_IH S Y n) (hμ : μ < mm_nm S) (h : mm_run S.1 n d μ 0 (vs ++ List.replicate (mm_mx S.1 μ - vs.length) (.retAddr 0)) [] (T, V, 0, 0) = some r)
    (hc : ∀ w ∈ vs, mm_ar w = true) (hn : vs.length ≤ mm_mx S.1 μ) (hv : ∀ w ∈ vs, mm_lv T w) (l : Launch) : Met l (mm_mn S μ) (mm_ws S μ) (mm_rm d r) (mm_Pc S Y φ T V vs) (mm_Qc Y φ T r) r.2.2.2.1 r.2.2.2.2 (fun q => Y.2.2 ≤ q) := by
  obtain ⟨⟨hpl, -, -, -, -⟩, -, hret, -⟩ := hG.2.2.2.1.1 μ hμ
  refine Met.ofW (cc := mm_mb S μ) (maxL := mm_mx S.1 μ) (ret := mm_mr S μ) hpl rfl ?_
  intro p e s m args below meth c s₁ B hml hv'
  obtain ⟨rfl, hHR, hB, hCK, hNK⟩ := hv'
  have hts := atoms_spec (ws := mm_ws S μ) B.pre
  have hlocks := B.notSynchronized
  have hF : mm_Fix S Y p (headSpec (mm_ws S μ) (mm_rm d r)).room s m (vs.map (mm_cv φ)).toArray meth c μ d :=
    ⟨B.exec, B.bytes, hml, findClass_of_methodNamed B.named, fun w hw => hts w (List.mem_cons_of_mem _ hw), (name_of_methodNamed B.named B.method).1, hCK, ⟨Nat.le_refl _, hNK⟩, Nat.le_refl _⟩
  rw [lg_entry_eq]
  refine (ih _ _ _ _ _ _ _ h).2 p l e _ s m _ below meth c _ hF (Nat.le_refl _) (Nat.le_refl _) s.heap [] _ φ hHR hB (fun q hq => by cases hq) (mm_LR.entry hc hn hv) (fun v hv => by cases hv) ?_
  intro φ' H' locs' pcR lsR hHR' hB' hL' hE
  refine ⟨fun x hx hb hd => ?_, fun hx hb hd => ?_⟩
  · have hq : ∀ t : State, t.heap = H' → s.WarmedH t.vm → mm_Qc Y φ T r (vs.map (mm_cv φ)).toArray s (.returned (some (.int x))) t := fun t ht hW => ⟨φ', by rw [hx], by rw [ht]; exact hHR'.moved hW.alike, by rw [ht]; exact hB', hE⟩
    rcases hret with ⟨h1, h2⟩ | ⟨h1, h2⟩ | ⟨h1, h2⟩
    · omega
    · exact W.zret (ty := .int) B.exec B.bytes (B.returns.trans h2) rfl hq hL' hd hlocks
    · refine W.zret (ty := .boolean) B.exec B.bytes (B.returns.trans h2) ?_ hq hL' hd hlocks
      rcases hb with hb | ⟨-, rfl | rfl⟩
      · omega
      · rfl
      · rfl
  · rcases hret with ⟨h1, h2⟩ | ⟨h1, h2⟩ | ⟨h1, h2⟩
    · exact W.vret B.exec B.bytes (B.returns.trans h2) (fun t ht hW => ⟨φ', by rw [hx], by rw [ht]; exact hHR'.moved hW.alike, by rw [ht]; exact hB', hE⟩) hL' hd hlocks
    · omega
    · omega
theorem mm_blind {S : mm_S} {Y : mm_Y} {φ : Nat → Nat} {T : mm_T} {V : mm_V} {vs : List Value} (hn : mm_NG S) : FrameBlind (mm_Pc S Y φ T V vs) := by
  intro a U g mk h
  obtain ⟨h1, h2, h3, h4, h5⟩ := h
  exact ⟨h1, mm_HR.moved (u := U) (U := U.calling g mk a) (Vm.Alike.refl U.vm) h2, h3, mm_CK.moved (u := U) (U := U.calling g mk a) (Vm.Alike.refl U.vm) h4, mm_NK.same (s := U) (U := U.calling g mk a) hn rfl h5⟩
theorem mm_goodin {S : mm_S} {μ : Nat} (hG : mm_Good S) (hμ : μ < mm_nm S) : GoodIn (mm_AL S) (mm_ws S μ) := by
  intro w hw
  rcases List.mem_cons.mp hw with rfl | h
  · have hc := (hG.2.2.2.1.1 μ hμ).1.2.1
    exact ⟨hc, hG.2.1 _ hc⟩
  · exact ⟨h, hG.2.1 _ h⟩
theorem mm_int_cv {φ : Nat → Nat} {o : Option Value} (h : o = none ∨ ∃ x, o = some (.int x)) : o.toList.map (mm_cv φ) = o.toList := by
  rcases h with rfl | ⟨x, rfl⟩ <;> rfl
theorem mm_int_lv {T : mm_T} {o : Option Value} (h : o = none ∨ ∃ x, o = some (.int x)) : ∀ v ∈ o.toList, mm_lv T v := by
  rcases h with rfl | ⟨x, rfl⟩
  · intro v hv; cases hv
  · intro v hv
    rw [show (some (Value.int x)).toList = [Value.int x] from rfl, List.mem_singleton] at hv
    rw [hv]; trivial
theorem mm_take_ref {st : List Value} {k x : Nat} (h : st[k]? = some (.ref x)) : st.take (k + 1) = st.take k ++ [.ref x] := by
  rw [List.take_succ, h]
  rfl
/-- behind a call -/
theorem mm_after {S : mm_S} {Y : mm_Y} {n d μ pc k : Nat} {ls st : List Value} {g : mm_M} {q r : mm_R} (ih : mm_IH S Y n) (hres : q.1 = none ∨ ∃ x, q.1 = some (.int x))
    (hk : mm_run S.1 n d μ (pc + 3) ls (q.1.toList ++ st.drop k) (q.2.1, q.2.2.1, g.2.2.1 + q.2.2.2.1, g.2.2.2 + q.2.2.2.2) = some r)
    {p : Program} {l : Launch} {e : Env} {R : Room} {s : State} {m : MethodId} {args : Array Value} {below : List Frame} {meth : Method} {c : Code} {Q : State → Prop} {H : Heap} {locs : List Loc} {lsA : Array Slot} {φ : Nat → Nat} {a : Array Value}
    (hF : mm_Fix S Y p R s m args meth c μ d) (hc : r.2.2.2.1 ≤ R.cells) (hs : r.2.2.2.2 ≤ R.slots) (hL : ∀ q ∈ locs, Y.2.2 ≤ q.base) (hLR : mm_LR φ g.1 ls lsA (mm_mx S.1 μ)) (hst : ∀ v ∈ st, mm_lv g.1 v) (hret : mm_Ret S Y p l e R s m args below meth c Q μ φ g.1 r)
    (hrun : va_Run p l e R s m args below meth c H locs g.2.2.1 g.2.2.2 q.2.2.2.1 q.2.2.2.2 (F0 m pc lsA (st.map (mm_cv φ))) ((st.drop k).map (mm_cv φ)) (mm_Qc Y φ g.1 q a) (fun x => Y.2.2 ≤ x)) :
    W p l e R s m args below meth c H locs g.2.2.1 g.2.2.2 Q (F0 m pc lsA (st.map (mm_cv φ))) := by
  intro T0 hT0 X
  obtain ⟨v, st₀, t, T', L, h0, X', hL2, e1, e2, ⟨φ', ho, hHR', hB', hE⟩, go⟩ := hrun T0 hT0 X
  cases ho
  have hdr : ∀ v ∈ st.drop k, mm_lv g.1 v := fun v hv => hst v (List.mem_of_mem_drop hv)
  have hal : t.vm.Alike s.vm := by rw [← e2]; exact X'.warmed.alike.symm
  have h1 := (ih _ _ _ _ _ _ _ hk).2 p l e R s m args below meth c Q hF hc hs T'.heap (locs ++ L) lsA φ' (by rw [e1]; exact hHR'.moved hal) (by rw [e1]; exact hB')
    (fun q hq => by
      rcases List.mem_append.mp hq with h | h
      · exact hL q h
      · exact hL2 q h) (hLR.ext hE) (fun v hv => by
      rcases List.mem_append.mp hv with h | h
      · exact mm_int_lv hres v h
      · exact mm_lv_ext hE (hdr v h)) (hret.ext hE)
  obtain ⟨t2, a1, b1⟩ := h1 T' rfl X'
  rw [List.map_append, mm_int_cv hres, mm_map_ext hE hdr] at a1
  exact ⟨t2, go t2 a1, b1⟩
end
section
/-! the machine of our own tells what the Java machine does: by the number of steps -/
theorem mm_call0 {S : mm_S} {Y : mm_Y} {n d μ pc a b w i : Nat} {ls st : List Value} {g : mm_M} {r : mm_R} (hG : mm_Good S) (ih : mm_IH S Y n) (hd : decode (mm_mb S μ) pc = .ok (.invokestatic i, 3)) (hm : mm_ml S μ a b w i 0 = true) (h : mm_cl S.1 (mm_run S.1 n) d μ pc a b ls st g = some r) : mm_Con S Y d μ pc ls st g r := by
  unfold mm_ml at hm
  simp only [Bool.and_eq_true, decide_eq_true_eq] at hm
  obtain ⟨ha, hkm, hw⟩ := hm
  cases d with
  | zero => cases h
  | succ d =>
  unfold mm_cl at h
  obtain ⟨⟨h1, h2, h3⟩, h⟩ := mm_if_some h
  split at h
  · rename_i q hq
    have hcq := ih _ _ _ _ _ _ _ hq
    obtain ⟨⟨⟨c1, c2⟩, hres⟩, -⟩ := hcq
    have hck := ih _ _ _ _ _ _ _ h
    obtain ⟨⟨⟨k1, k2⟩, k3⟩, -⟩ := hck
    have k1' : g.2.2.1 + q.2.2.2.1 ≤ r.2.2.2.1 := k1
    have k2' : g.2.2.2 + q.2.2.2.2 ≤ r.2.2.2.2 := k2
    refine ⟨⟨⟨by omega, by omega⟩, k3⟩, ?_⟩
    intro p l e R s m args below meth c Q hF hc hs H locs lsA φ hHR hB hL hLR hst hret
    obtain ⟨⟨hpl, hcode, hini, hy1, hy2⟩, ⟨hmx, hnm⟩, hr, hkind⟩ := hG.2.2.2.1.1 a ha
    rw [hkm] at hnm hkind
    have hlen : (st.take b).reverse.length = b := by rw [List.length_reverse, List.length_take]; omega
    have hall : ∀ w ∈ (st.take b).reverse, mm_ar w = true := fun w hw => List.all_eq_true.mp h3 w (List.mem_reverse.mp hw)
    have hlv : ∀ w ∈ (st.take b).reverse, mm_lv g.1 w := fun w hw => hst w (List.mem_of_mem_take (List.mem_reverse.mp hw))
    have hM := mm_met (Y := Y) (n := n) (d := d) (T := g.1) (V := g.2.1) (r := q) (vs := (st.take b).reverse) φ hG ih ha (by rw [hlen]; exact hq) hall (by rw [hlen]; exact hnm) hlv l
    obtain ⟨hx, hbb, hml, hown, hts, hin, hCK, ⟨hfr, hNK⟩, hlo⟩ := id hF
    rcases hkind with ⟨-, hpar, hstat⟩ | ⟨z, -⟩ | ⟨z, -⟩
    · refine mm_after (a := (((st.take b).reverse).map (mm_cv φ)).toArray) ih hres h hF hc hs hL hLR hst hret ?_
      refine va_runS (cc := mm_mb S μ) (Ts := mm_AL S) (own := (mm_mn S μ).cls) (n := b) (As := ((st.take b).reverse).map (mm_cv φ)) ⟨hx, hbb, hml, hown, hts⟩ hM
        ⟨callB_of b hts (mm_goodin hG ha) rfl rfl rfl (hts _ hini) (hts _ (List.mem_of_getElem? hw)) ⟨hy1, hy2, hpar⟩ ⟨hfr, by show 8 + (mm_mx S.1 a + 11) + 27 * d ≤ R.locals; omega⟩, hts _ hstat⟩
        ⟨mm_blind hG.2.2.2.1.2, fun U hU hW => ⟨rfl, by rw [hU]; exact hHR.moved hW.alike, by rw [hU]; exact hB, hCK.moved hW.alike, hNK.warm hG.2.2.2.1.2 hW⟩⟩ rfl (by rw [List.length_map]; exact hlen) hLR.1 ?_ ?_ hd ⟨Nat.le_trans k1' hc, Nat.le_trans k2' hs⟩
      · show st.map (mm_cv φ) = _
        rw [← List.map_reverse, List.reverse_reverse, ← List.map_append, List.take_append_drop]
      · show 2 * 0 + _ ≤ 8
        have := mm_catsum ((st.drop b).map (mm_cv φ))
        rw [List.length_map] at this
        omega
    · cases z
    · rcases z with z | z <;> cases z
  · cases h
theorem mm_call1 {S : mm_S} {Y : mm_Y} {n d μ pc a b w i : Nat} {ls st : List Value} {g : mm_M} {r : mm_R} (hG : mm_Good S) (ih : mm_IH S Y n) (hd : decode (mm_mb S μ) pc = .ok (.invokevirtual i, 3)) (hm : mm_ml S μ a b w i 1 = true) (hrv : mm_rv S.1 a b st g.1 = true) (h : mm_cl S.1 (mm_run S.1 n) d μ pc a b ls st g = some r) : mm_Con S Y d μ pc ls st g r := by
  unfold mm_ml at hm
  simp only [Bool.and_eq_true, decide_eq_true_eq] at hm
  obtain ⟨ha, hkm, hw⟩ := hm
  cases d with
  | zero => cases h
  | succ d =>
  unfold mm_cl at h
  obtain ⟨⟨h1, h2, h3⟩, h⟩ := mm_if_some h
  split at h
  · rename_i q hq
    have hcq := ih _ _ _ _ _ _ _ hq
    obtain ⟨⟨⟨c1, c2⟩, hres⟩, -⟩ := hcq
    have hck := ih _ _ _ _ _ _ _ h
    obtain ⟨⟨⟨k1, k2⟩, k3⟩, -⟩ := hck
    have k1' : g.2.2.1 + q.2.2.2.1 ≤ r.2.2.2.1 := k1
    have k2' : g.2.2.2 + q.2.2.2.2 ≤ r.2.2.2.2 := k2
    refine ⟨⟨⟨by omega, by omega⟩, k3⟩, ?_⟩
    intro p l e R s m args below meth c Q hF hc hs H locs lsA φ hHR hB hL hLR hst hret
    obtain ⟨⟨hpl, hcode, hini, hy1, hy2⟩, ⟨hmx, hnm⟩, hr, hkind⟩ := hG.2.2.2.1.1 a ha
    rw [hkm] at hnm hkind
    have hlen : (st.take b).reverse.length = b := by rw [List.length_reverse, List.length_take]; omega
    have hall : ∀ w ∈ (st.take b).reverse, mm_ar w = true := fun w hw => List.all_eq_true.mp h3 w (List.mem_reverse.mp hw)
    have hlv : ∀ w ∈ (st.take b).reverse, mm_lv g.1 w := fun w hw => hst w (List.mem_of_mem_take (List.mem_reverse.mp hw))
    have hM := mm_met (Y := Y) (n := n) (d := d) (T := g.1) (V := g.2.1) (r := q) (vs := (st.take b).reverse) φ hG ih ha (by rw [hlen]; exact hq) hall (by rw [hlen]; exact hnm) hlv l
    obtain ⟨hx, hbb, hml, hown, hts, hin, hCK, ⟨hfr, hNK⟩, hlo⟩ := id hF
    rcases hkind with ⟨z, -⟩ | ⟨-, hpar, hinst, hsel, hrc, hcls⟩ | ⟨z, -⟩
    · cases z
    · unfold mm_rv at hrv
      split at hrv
      · rename_i x hx2
        have hTx := of_decide_eq_true hrv
        have hb1 : 1 ≤ b := by
          cases hp : parseMethodDescriptor (mm_mn S a).desc with
          | none => rw [hp] at hpar; cases hpar
          | some z => rw [hp] at hpar; have h9 : z.parameters.length + 1 = b := Option.some.inj hpar; omega
        obtain ⟨k, rfl⟩ : ∃ k, b = k + 1 := ⟨b - 1, by omega⟩
        rw [Nat.add_sub_cancel] at hx2
        have htk := mm_take_ref hx2
        have hvs : (st.take (k + 1)).reverse = .ref x :: (st.take k).reverse := by rw [htk, List.reverse_append]; rfl
        have hpar' : (parseMethodDescriptor (mm_mn S a).desc).map (fun d => d.parameters.length) = some k := by
          cases hp : parseMethodDescriptor (mm_mn S a).desc with
          | none => rw [hp] at hpar; cases hpar
          | some z => rw [hp] at hpar; have h9 : z.parameters.length + 1 = k + 1 := Option.some.inj hpar; exact congrArg some (show z.parameters.length = k by omega)
        rw [hvs] at hM
        obtain ⟨cellB, q1, q2, q3, -⟩ := mm_OB hG.2.2.1.1 hHR hrc hTx
        refine mm_after (a := (Value.ref (φ x) :: ((st.take k).reverse).map (mm_cv φ)).toArray) ih hres h hF hc hs hL hLR hst hret ?_
        refine va_runV (cc := mm_mb S μ) (Ts := mm_AL S) (own := (mm_mn S μ).cls) (C := (mm_mn S a).cls) (n := k) (b := φ x) (As := ((st.take k).reverse).map (mm_cv φ)) ⟨hx, hbb, hml, hown, hts⟩ hM
          ⟨callB_of k hts (mm_goodin hG ha) rfl rfl rfl (hts _ hini) (hts _ (List.mem_of_getElem? hw)) ⟨hy1, hy2, hpar'⟩ ⟨hfr, by show 8 + (mm_mx S.1 a + 11) + 27 * d ≤ R.locals; omega⟩, hts _ hinst, hts _ hsel⟩
          ⟨mm_blind hG.2.2.2.1.2, ⟨cellB, q1, by rw [q3]; rfl, by rw [q2, ← hcls]; exact (hCK.1 _ hrc).2.1⟩, fun U hU hW => ⟨rfl, by rw [hU]; exact hHR.moved hW.alike, by rw [hU]; exact hB, hCK.moved hW.alike, hNK.warm hG.2.2.2.1.2 hW⟩⟩ rfl (by rw [List.length_map, List.length_reverse, List.length_take]; omega) hLR.1 ?_ ?_ hd ⟨Nat.le_trans k1' hc, Nat.le_trans k2' hs⟩
        · show st.map (mm_cv φ) = _
          rw [← List.map_reverse, List.reverse_reverse]
          conv => lhs; rw [← List.take_append_drop (k + 1) st, htk, List.map_append, List.map_append, List.append_assoc]
          rfl
        · show 2 * 0 + _ ≤ 8
          have := mm_catsum ((st.drop (k + 1)).map (mm_cv φ))
          rw [List.length_map] at this
          omega
      · cases hrv
    · rcases z with z | z <;> cases z
  · cases h
theorem mm_call2 {S : mm_S} {Y : mm_Y} {n d μ pc a b w i : Nat} {ls st : List Value} {g : mm_M} {r : mm_R} (hG : mm_Good S) (ih : mm_IH S Y n) (hd : decode (mm_mb S μ) pc = .ok (.invokespecial i, 3)) (hm : mm_ml S μ a b w i 2 = true) (hrf : mm_rf b st = true) (h : mm_cl S.1 (mm_run S.1 n) d μ pc a b ls st g = some r) : mm_Con S Y d μ pc ls st g r := by
  unfold mm_ml at hm
  simp only [Bool.and_eq_true, decide_eq_true_eq] at hm
  obtain ⟨ha, hkm, hw⟩ := hm
  cases d with
  | zero => cases h
  | succ d =>
  unfold mm_cl at h
  obtain ⟨⟨h1, h2, h3⟩, h⟩ := mm_if_some h
  split at h
  · rename_i q hq
    have hcq := ih _ _ _ _ _ _ _ hq
    obtain ⟨⟨⟨c1, c2⟩, hres⟩, -⟩ := hcq
    have hck := ih _ _ _ _ _ _ _ h
    obtain ⟨⟨⟨k1, k2⟩, k3⟩, -⟩ := hck
    have k1' : g.2.2.1 + q.2.2.2.1 ≤ r.2.2.2.1 := k1
    have k2' : g.2.2.2 + q.2.2.2.2 ≤ r.2.2.2.2 := k2
    refine ⟨⟨⟨by omega, by omega⟩, k3⟩, ?_⟩
    intro p l e R s m args below meth c Q hF hc hs H locs lsA φ hHR hB hL hLR hst hret
    obtain ⟨⟨hpl, hcode, hini, hy1, hy2⟩, ⟨hmx, hnm⟩, hr, hkind⟩ := hG.2.2.2.1.1 a ha
    rw [hkm] at hnm hkind
    have hlen : (st.take b).reverse.length = b := by rw [List.length_reverse, List.length_take]; omega
    have hall : ∀ w ∈ (st.take b).reverse, mm_ar w = true := fun w hw => List.all_eq_true.mp h3 w (List.mem_reverse.mp hw)
    have hlv : ∀ w ∈ (st.take b).reverse, mm_lv g.1 w := fun w hw => hst w (List.mem_of_mem_take (List.mem_reverse.mp hw))
    have hM := mm_met (Y := Y) (n := n) (d := d) (T := g.1) (V := g.2.1) (r := q) (vs := (st.take b).reverse) φ hG ih ha (by rw [hlen]; exact hq) hall (by rw [hlen]; exact hnm) hlv l
    obtain ⟨hx, hbb, hml, hown, hts, hin, hCK, ⟨hfr, hNK⟩, hlo⟩ := id hF
    rcases hkind with ⟨z, -⟩ | ⟨z, -⟩ | ⟨-, hpar, hinst, hname, hmr⟩
    · cases z
    · cases z
    · unfold mm_rf at hrf
      split at hrf
      · rename_i x hx2
        have hb1 : 1 ≤ b := by
          cases hp : parseMethodDescriptor (mm_mn S a).desc with
          | none => rw [hp] at hpar; cases hpar
          | some z => rw [hp] at hpar; have h9 : z.parameters.length + 1 = b := Option.some.inj hpar; omega
        obtain ⟨k, rfl⟩ : ∃ k, b = k + 1 := ⟨b - 1, by omega⟩
        rw [Nat.add_sub_cancel] at hx2
        have htk := mm_take_ref hx2
        have hvs : (st.take (k + 1)).reverse = .ref x :: (st.take k).reverse := by rw [htk, List.reverse_append]; rfl
        have hpar' : (parseMethodDescriptor (mm_mn S a).desc).map (fun d => d.parameters.length) = some k := by
          cases hp : parseMethodDescriptor (mm_mn S a).desc with
          | none => rw [hp] at hpar; cases hpar
          | some z => rw [hp] at hpar; have h9 : z.parameters.length + 1 = k + 1 := Option.some.inj hpar; exact congrArg some (show z.parameters.length = k by omega)
        rw [hvs] at hM
        have hcode' : mm_ws S a = Cond.code (mm_mn S a) (mm_mb S a) (mm_mx S.1 a) none :: mm_AL S := by show _ :: _ = _; rw [hmr]
        refine mm_after (a := (Value.ref (φ x) :: ((st.take k).reverse).map (mm_cv φ)).toArray) ih hres h hF hc hs hL hLR hst hret ?_
        refine va_runI (cc := mm_mb S μ) (Ts := mm_AL S) (own := (mm_mn S μ).cls) (n := k) (b := φ x) (As := ((st.take k).reverse).map (mm_cv φ)) ⟨hx, hbb, hml, hown, hts⟩ hM
          ⟨callB_of k hts (mm_goodin hG ha) hcode' rfl rfl (hts _ hini) (hts _ (List.mem_of_getElem? hw)) ⟨hy1, hy2, hpar'⟩ ⟨hfr, by show 8 + (mm_mx S.1 a + 11) + 27 * d ≤ R.locals; omega⟩, hname, hts _ hinst⟩
          ⟨mm_blind hG.2.2.2.1.2, fun U hU hW => ⟨rfl, by rw [hU]; exact hHR.moved hW.alike, by rw [hU]; exact hB, hCK.moved hW.alike, hNK.warm hG.2.2.2.1.2 hW⟩⟩ rfl (by rw [List.length_map, List.length_reverse, List.length_take]; omega) hLR.1 ?_ ?_ hd ⟨Nat.le_trans k1' hc, Nat.le_trans k2' hs⟩
        · show st.map (mm_cv φ) = _
          rw [← List.map_reverse, List.reverse_reverse]
          conv => lhs; rw [← List.take_append_drop (k + 1) st, htk, List.map_append, List.map_append, List.append_assoc]
          rfl
        · show 2 * 0 + _ ≤ 8
          have := mm_catsum ((st.drop (k + 1)).map (mm_cv φ))
          rw [List.length_map] at this
          omega
      · cases hrf
  · cases h
theorem mm_call3 {S : mm_S} {Y : mm_Y} {n d μ pc a b w i : Nat} {ls st : List Value} {g : mm_M} {r : mm_R} (hG : mm_Good S) (ih : mm_IH S Y n) (hd : decode (mm_mb S μ) pc = .ok (.invokespecial i, 3)) (hm : mm_mn3 S μ a b w i = true) (hrf : mm_rf b st = true) (h : mm_cl S.1 (mm_run S.1 n) d μ pc a b ls st g = some r) : mm_Con S Y d μ pc ls st g r := by
  unfold mm_mn3 at hm
  simp only [Bool.and_eq_true, decide_eq_true_eq] at hm
  obtain ⟨ha, hkm, hw⟩ := hm
  cases d with
  | zero => cases h
  | succ d =>
  unfold mm_cl at h
  obtain ⟨⟨h1, h2, h3⟩, h⟩ := mm_if_some h
  split at h
  · rename_i q hq
    have hcq := ih _ _ _ _ _ _ _ hq
    obtain ⟨⟨⟨c1, c2⟩, hres⟩, -⟩ := hcq
    have hck := ih _ _ _ _ _ _ _ h
    obtain ⟨⟨⟨k1, k2⟩, k3⟩, -⟩ := hck
    have k1' : g.2.2.1 + q.2.2.2.1 ≤ r.2.2.2.1 := k1
    have k2' : g.2.2.2 + q.2.2.2.2 ≤ r.2.2.2.2 := k2
    refine ⟨⟨⟨by omega, by omega⟩, k3⟩, ?_⟩
    intro p l e R s m args below meth c Q hF hc hs H locs lsA φ hHR hB hL hLR hst hret
    obtain ⟨⟨hpl, hcode, hini, hy1, hy2⟩, ⟨hmx, hnm⟩, hr, hkind⟩ := hG.2.2.2.1.1 a ha
    rw [hkm] at hnm hkind
    have hlen : (st.take b).reverse.length = b := by rw [List.length_reverse, List.length_take]; omega
    have hall : ∀ w ∈ (st.take b).reverse, mm_ar w = true := fun w hw => List.all_eq_true.mp h3 w (List.mem_reverse.mp hw)
    have hlv : ∀ w ∈ (st.take b).reverse, mm_lv g.1 w := fun w hw => hst w (List.mem_of_mem_take (List.mem_reverse.mp hw))
    have hM := mm_met (Y := Y) (n := n) (d := d) (T := g.1) (V := g.2.1) (r := q) (vs := (st.take b).reverse) φ hG ih ha (by rw [hlen]; exact hq) hall (by rw [hlen]; exact hnm) hlv l
    obtain ⟨hx, hbb, hml, hown, hts, hin, hCK, ⟨hfr, hNK⟩, hlo⟩ := id hF
    rcases hkind with ⟨z, -⟩ | ⟨z, -⟩ | ⟨-, hpar, hinst, hname, hmr⟩
    · cases z
    · cases z
    · unfold mm_rf at hrf
      split at hrf
      · rename_i x hx2
        have hb1 : 1 ≤ b := by
          cases hp : parseMethodDescriptor (mm_mn S a).desc with
          | none => rw [hp] at hpar; cases hpar
          | some z => rw [hp] at hpar; have h9 : z.parameters.length + 1 = b := Option.some.inj hpar; omega
        obtain ⟨k, rfl⟩ : ∃ k, b = k + 1 := ⟨b - 1, by omega⟩
        rw [Nat.add_sub_cancel] at hx2
        have htk := mm_take_ref hx2
        have hvs : (st.take (k + 1)).reverse = .ref x :: (st.take k).reverse := by rw [htk, List.reverse_append]; rfl
        have hpar' : (parseMethodDescriptor (mm_mn S a).desc).map (fun d => d.parameters.length) = some k := by
          cases hp : parseMethodDescriptor (mm_mn S a).desc with
          | none => rw [hp] at hpar; cases hpar
          | some z => rw [hp] at hpar; have h9 : z.parameters.length + 1 = k + 1 := Option.some.inj hpar; exact congrArg some (show z.parameters.length = k by omega)
        rw [hvs] at hM
        have hcode' : mm_ws S a = Cond.code (mm_mn S a) (mm_mb S a) (mm_mx S.1 a) none :: mm_AL S := by show _ :: _ = _; rw [hmr]
        refine mm_after (a := (Value.ref (φ x) :: ((st.take k).reverse).map (mm_cv φ)).toArray) ih hres h hF hc hs hL hLR hst hret ?_
        refine va_runIN (host := "StackPolicyKernel") (cc := mm_mb S μ) (Ts := mm_AL S) (own := (mm_mn S μ).cls) (n := k) (b := φ x) (As := ((st.take k).reverse).map (mm_cv φ)) ⟨hx, hbb, hml, hown, hts⟩ hM
          ⟨va_cnB k hts (mm_goodin hG ha) hcode' rfl rfl (hNK _ (List.mem_of_getElem? hw)) (hts _ hini) ⟨hy1, hy2, hpar'⟩ ⟨hfr, by show 8 + (mm_mx S.1 a + 11) + 27 * d ≤ R.locals; omega⟩, hname, hts _ hinst⟩
          ⟨mm_blind hG.2.2.2.1.2, fun U hU hW => ⟨rfl, by rw [hU]; exact hHR.moved hW.alike, by rw [hU]; exact hB, hCK.moved hW.alike, hNK.warm hG.2.2.2.1.2 hW⟩⟩ rfl (by rw [List.length_map, List.length_reverse, List.length_take]; omega) hLR.1 ?_ ?_ hd ⟨Nat.le_trans k1' hc, Nat.le_trans k2' hs⟩
        · show st.map (mm_cv φ) = _
          rw [← List.map_reverse, List.reverse_reverse]
          conv => lhs; rw [← List.take_append_drop (k + 1) st, htk, List.map_append, List.map_append, List.append_assoc]
          rfl
        · show 2 * 0 + _ ≤ 8
          have := mm_catsum ((st.drop (k + 1)).map (mm_cv φ))
          rw [List.length_map] at this
          omega
      · cases hrf
  · cases h
end
section
theorem mm_new_lv {T : mm_T} {x kd len : Nat} (_ : T x = none) : mm_lv (mm_alT T x kd len) (.ref x) := by
  show mm_alT T x kd len x ≠ none
  unfold mm_alT
  rw [if_pos rfl]
  exact fun z => by cases z
theorem mm_new_cv {φ : Nat → Nat} {x q : Nat} : mm_cv (mm_fu φ x q) (.ref x) = .ref q := by
  show Value.ref (mm_fu φ x q x) = _
  unfold mm_fu
  rw [if_pos rfl]
/-! a case an instruction -/
theorem mm_dcs {S : mm_S} {μ pc n : Nat} {ins : Instr} (h : mm_dc S μ pc ins n = true) : decode (mm_mb S μ) pc = .ok (ins, n) := of_decide_eq_true h
theorem mm_and {a b : Bool} (h : (a && b) = true) : a = true ∧ b = true := by simpa using h
set_option maxHeartbeats 4000000 in
set_option maxRecDepth 20000 in
theorem mm_step {S : mm_S} {Y : mm_Y} {n : Nat} (hG : mm_Good S) (ih : mm_IH S Y n) : mm_IH S Y (n + 1) := by
  intro d μ pc ls st g r h
  change mm_stp S.1 (mm_run S.1 n) d μ pc ls st g = some r at h
  unfold mm_stp at h
  split at h
  · cases h
  rename_i ins a b w htb
  have hok := hG.1 _ _ _ htb
  cases ins with
  | iconst k =>
    have hk := h
    have hd := mm_dcs hok
    refine mm_one ih hk (Nat.le_refl _) (Nat.le_refl _) ?_
    intro p l e R s m args below meth c Q _ _ hN hF hc hs H locs lsA φ hHR hB hL hLR hst hret
    exact lv_iconst hF.1 hF.2.1 hd rfl (hN hF hc hs H locs lsA φ hHR hB hL hLR (mm_cc trivial hst) hret)
  | bipush k =>
    have hk := h
    have hv := of_decide_eq_true (mm_and hok).2
    have hd := mm_dcs (mm_and hok).1
    refine mm_one ih hk (Nat.le_refl _) (Nat.le_refl _) ?_
    intro p l e R s m args below meth c Q _ _ hN hF hc hs H locs lsA φ hHR hB hL hLR hst hret
    exact lv_bipush hF.1 hF.2.1 hd hv (hN hF hc hs H locs lsA φ hHR hB hL hLR (mm_cc trivial hst) hret)
  | sipush k =>
    have hk := h
    have hv := of_decide_eq_true (mm_and hok).2
    have hd := mm_dcs (mm_and hok).1
    refine mm_one ih hk (Nat.le_refl _) (Nat.le_refl _) ?_
    intro p l e R s m args below meth c Q _ _ hN hF hc hs H locs lsA φ hHR hB hL hLR hst hret
    exact lv_sipush hF.1 hF.2.1 hd hv (hN hF hc hs H locs lsA φ hHR hB hL hLR (mm_cc trivial hst) hret)
  | lconst k =>
    have hk := h
    have hd := mm_dcs hok
    refine mm_one ih hk (Nat.le_refl _) (Nat.le_refl _) ?_
    intro p l e R s m args below meth c Q _ _ hN hF hc hs H locs lsA φ hHR hB hL hLR hst hret
    exact lv_lconst hF.1 hF.2.1 hd rfl (hN hF hc hs H locs lsA φ hHR hB hL hLR (mm_cc trivial hst) hret)
  | iload i =>
    obtain ⟨x, hx, hk⟩ := mm_oi_some h
    have hd := mm_dcs hok
    refine mm_one ih hk (Nat.le_refl _) (Nat.le_refl _) ?_
    intro p l e R s m args below meth c Q _ _ hN hF hc hs H locs lsA φ hHR hB hL hLR hst hret
    exact lv_iload hF.1 hF.2.1 hd (hLR.at hx rfl) (hN hF hc hs H locs lsA φ hHR hB hL hLR (mm_cc trivial hst) hret)
  | iload_n i =>
    obtain ⟨x, hx, hk⟩ := mm_oi_some h
    have hd := mm_dcs hok
    refine mm_one ih hk (Nat.le_refl _) (Nat.le_refl _) ?_
    intro p l e R s m args below meth c Q _ _ hN hF hc hs H locs lsA φ hHR hB hL hLR hst hret
    exact lv_iload_n hF.1 hF.2.1 hd rfl (hLR.at hx rfl) (hN hF hc hs H locs lsA φ hHR hB hL hLR (mm_cc trivial hst) hret)
  | aload i =>
    obtain ⟨x, hx, hk⟩ := mm_or_some h
    have hd := mm_dcs hok
    refine mm_one ih hk (Nat.le_refl _) (Nat.le_refl _) ?_
    intro p l e R s m args below meth c Q _ _ hN hF hc hs H locs lsA φ hHR hB hL hLR hst hret
    exact lv_aload hF.1 hF.2.1 hd (hLR.at hx rfl) (hN hF hc hs H locs lsA φ hHR hB hL hLR (mm_cc (hLR.2.2.2.2 _ (List.mem_of_getElem? (mm_ld_some hx rfl))) hst) hret)
  | aload_n i =>
    obtain ⟨x, hx, hk⟩ := mm_or_some h
    have hd := mm_dcs hok
    refine mm_one ih hk (Nat.le_refl _) (Nat.le_refl _) ?_
    intro p l e R s m args below meth c Q _ _ hN hF hc hs H locs lsA φ hHR hB hL hLR hst hret
    exact lv_aload_n hF.1 hF.2.1 hd rfl (hLR.at hx rfl) (hN hF hc hs H locs lsA φ hHR hB hL hLR (mm_cc (hLR.2.2.2.2 _ (List.mem_of_getElem? (mm_ld_some hx rfl))) hst) hret)
  | lload i =>
    obtain ⟨x, hx, hk⟩ := mm_ol_some h
    have hd := mm_dcs hok
    refine mm_one ih hk (Nat.le_refl _) (Nat.le_refl _) ?_
    intro p l e R s m args below meth c Q _ _ hN hF hc hs H locs lsA φ hHR hB hL hLR hst hret
    exact lv_lload hF.1 hF.2.1 hd (hLR.at hx rfl) (hN hF hc hs H locs lsA φ hHR hB hL hLR (mm_cc trivial hst) hret)
  | lload_n i =>
    obtain ⟨x, hx, hk⟩ := mm_ol_some h
    have hd := mm_dcs hok
    refine mm_one ih hk (Nat.le_refl _) (Nat.le_refl _) ?_
    intro p l e R s m args below meth c Q _ _ hN hF hc hs H locs lsA φ hHR hB hL hLR hst hret
    exact lv_lload_n hF.1 hF.2.1 hd rfl (hLR.at hx rfl) (hN hF hc hs H locs lsA φ hHR hB hL hLR (mm_cc trivial hst) hret)
  | istore i =>
    obtain ⟨x, t, rfl, hk⟩ := mm_i1_some h
    obtain ⟨hso, hk⟩ := mm_if_some hk
    have hd := mm_dcs hok
    refine mm_one ih hk (Nat.le_refl _) (Nat.le_refl _) ?_
    intro p l e R s m args below meth c Q _ _ hN hF hc hs H locs lsA φ hHR hB hL hLR hst hret
    exact lv_istore hF.1 hF.2.1 hd hLR.has (by have h1 := mm_so_len hso; have h2 := hLR.2.1; omega) rfl (fun ls' h' => hN hF hc hs H locs ls' φ hHR hB hL (mm_LR.set1 (v := .int x) hLR hso trivial h') (mm_t1 hst) hret)
  | istore_n i =>
    obtain ⟨x, t, rfl, hk⟩ := mm_i1_some h
    obtain ⟨hso, hk⟩ := mm_if_some hk
    have hd := mm_dcs hok
    refine mm_one ih hk (Nat.le_refl _) (Nat.le_refl _) ?_
    intro p l e R s m args below meth c Q _ _ hN hF hc hs H locs lsA φ hHR hB hL hLR hst hret
    exact lv_istore_n hF.1 hF.2.1 hd rfl hLR.has (by have h1 := mm_so_len hso; have h2 := hLR.2.1; omega) rfl (fun ls' h' => hN hF hc hs H locs ls' φ hHR hB hL (mm_LR.set1 (v := .int x) hLR hso trivial h') (mm_t1 hst) hret)
  | astore i =>
    obtain ⟨x, t, rfl, hk⟩ := mm_r1_some h
    obtain ⟨hso, hk⟩ := mm_if_some hk
    have hd := mm_dcs hok
    refine mm_one ih hk (Nat.le_refl _) (Nat.le_refl _) ?_
    intro p l e R s m args below meth c Q _ _ hN hF hc hs H locs lsA φ hHR hB hL hLR hst hret
    exact lv_astore hF.1 hF.2.1 hd hLR.has (by have h1 := mm_so_len hso; have h2 := hLR.2.1; omega) rfl (fun ls' h' => hN hF hc hs H locs ls' φ hHR hB hL (mm_LR.set1 (v := .ref x) hLR hso (mm_h1 hst) h') (mm_t1 hst) hret)
  | astore_n i =>
    obtain ⟨x, t, rfl, hk⟩ := mm_r1_some h
    obtain ⟨hso, hk⟩ := mm_if_some hk
    have hd := mm_dcs hok
    refine mm_one ih hk (Nat.le_refl _) (Nat.le_refl _) ?_
    intro p l e R s m args below meth c Q _ _ hN hF hc hs H locs lsA φ hHR hB hL hLR hst hret
    exact lv_astore_n hF.1 hF.2.1 hd rfl hLR.has (by have h1 := mm_so_len hso; have h2 := hLR.2.1; omega) rfl (fun ls' h' => hN hF hc hs H locs ls' φ hHR hB hL (mm_LR.set1 (v := .ref x) hLR hso (mm_h1 hst) h') (mm_t1 hst) hret)
  | lstore i =>
    obtain ⟨x, t, rfl, hk⟩ := mm_l1_some h
    obtain ⟨hso, hk⟩ := mm_if_some hk
    have hd := mm_dcs hok
    refine mm_one ih hk (Nat.le_refl _) (Nat.le_refl _) ?_
    intro p l e R s m args below meth c Q _ _ hN hF hc hs H locs lsA φ hHR hB hL hLR hst hret
    exact lv_lstore hF.1 hF.2.1 hd hLR.has (by have h1 := mm_so_len hso; have h2 := hLR.2.1; omega) rfl (fun ls' h' => hN hF hc hs H locs ls' φ hHR hB hL (mm_LR.set2 (v := .long x) hLR hso trivial h') (mm_t1 hst) hret)
  | lstore_n i =>
    obtain ⟨x, t, rfl, hk⟩ := mm_l1_some h
    obtain ⟨hso, hk⟩ := mm_if_some hk
    have hd := mm_dcs hok
    refine mm_one ih hk (Nat.le_refl _) (Nat.le_refl _) ?_
    intro p l e R s m args below meth c Q _ _ hN hF hc hs H locs lsA φ hHR hB hL hLR hst hret
    exact lv_lstore_n hF.1 hF.2.1 hd rfl hLR.has (by have h1 := mm_so_len hso; have h2 := hLR.2.1; omega) rfl (fun ls' h' => hN hF hc hs H locs ls' φ hHR hB hL (mm_LR.set2 (v := .long x) hLR hso trivial h') (mm_t1 hst) hret)
  | iinc i k =>
    obtain ⟨x, hx, hk⟩ := mm_oi_some h
    obtain ⟨hso, hk⟩ := mm_if_some hk
    have hd := mm_dcs hok
    refine mm_one ih hk (Nat.le_refl _) (Nat.le_refl _) ?_
    intro p l e R s m args below meth c Q _ _ hN hF hc hs H locs lsA φ hHR hB hL hLR hst hret
    obtain ⟨q, hq⟩ := List.getElem?_of_mem (mm_as_mem (φ := φ) (mm_ld_some hx rfl) rfl)
    exact lv_iinc (k := q) hF.1 hF.2.1 hd hLR.has hq rfl (by have h1 := mm_so_len hso; have h2 := hLR.2.1; omega) rfl (fun ls' h' => hN hF hc hs H locs ls' φ hHR hB hL (mm_LR.set1 (v := .int (x + Int32.ofInt k)) hLR hso trivial h') hst hret)
  | iadd =>
    obtain ⟨x, y, t, rfl, hk⟩ := mm_i2_some h
    have hd := mm_dcs hok
    refine mm_one ih hk (Nat.le_refl _) (Nat.le_refl _) ?_
    intro p l e R s m args below meth c Q _ _ hN hF hc hs H locs lsA φ hHR hB hL hLR hst hret
    exact lv_iadd hF.1 hF.2.1 hd (hN hF hc hs H locs lsA φ hHR hB hL hLR (mm_cc trivial (mm_t1 (mm_t1 hst))) hret)
  | isub =>
    obtain ⟨x, y, t, rfl, hk⟩ := mm_i2_some h
    have hd := mm_dcs hok
    refine mm_one ih hk (Nat.le_refl _) (Nat.le_refl _) ?_
    intro p l e R s m args below meth c Q _ _ hN hF hc hs H locs lsA φ hHR hB hL hLR hst hret
    exact lv_isub hF.1 hF.2.1 hd (hN hF hc hs H locs lsA φ hHR hB hL hLR (mm_cc trivial (mm_t1 (mm_t1 hst))) hret)
  | imul =>
    obtain ⟨x, y, t, rfl, hk⟩ := mm_i2_some h
    have hd := mm_dcs hok
    refine mm_one ih hk (Nat.le_refl _) (Nat.le_refl _) ?_
    intro p l e R s m args below meth c Q _ _ hN hF hc hs H locs lsA φ hHR hB hL hLR hst hret
    exact lv_imul hF.1 hF.2.1 hd (hN hF hc hs H locs lsA φ hHR hB hL hLR (mm_cc trivial (mm_t1 (mm_t1 hst))) hret)
  | iand =>
    obtain ⟨x, y, t, rfl, hk⟩ := mm_i2_some h
    have hd := mm_dcs hok
    refine mm_one ih hk (Nat.le_refl _) (Nat.le_refl _) ?_
    intro p l e R s m args below meth c Q _ _ hN hF hc hs H locs lsA φ hHR hB hL hLR hst hret
    exact lv_iand hF.1 hF.2.1 hd (hN hF hc hs H locs lsA φ hHR hB hL hLR (mm_cc trivial (mm_t1 (mm_t1 hst))) hret)
  | i2l =>
    obtain ⟨x, t, rfl, hk⟩ := mm_i1_some h
    have hd := mm_dcs hok
    refine mm_one ih hk (Nat.le_refl _) (Nat.le_refl _) ?_
    intro p l e R s m args below meth c Q _ _ hN hF hc hs H locs lsA φ hHR hB hL hLR hst hret
    exact lv_i2l hF.1 hF.2.1 hd rfl (hN hF hc hs H locs lsA φ hHR hB hL hLR (mm_cc trivial (mm_t1 hst)) hret)
  | ladd =>
    obtain ⟨x, y, t, rfl, hk⟩ := mm_l2_some h
    have hd := mm_dcs hok
    refine mm_one ih hk (Nat.le_refl _) (Nat.le_refl _) ?_
    intro p l e R s m args below meth c Q _ _ hN hF hc hs H locs lsA φ hHR hB hL hLR hst hret
    exact lv_ladd hF.1 hF.2.1 hd (hN hF hc hs H locs lsA φ hHR hB hL hLR (mm_cc trivial (mm_t1 (mm_t1 hst))) hret)
  | lsub =>
    obtain ⟨x, y, t, rfl, hk⟩ := mm_l2_some h
    have hd := mm_dcs hok
    refine mm_one ih hk (Nat.le_refl _) (Nat.le_refl _) ?_
    intro p l e R s m args below meth c Q _ _ hN hF hc hs H locs lsA φ hHR hB hL hLR hst hret
    exact lv_lsub hF.1 hF.2.1 hd (hN hF hc hs H locs lsA φ hHR hB hL hLR (mm_cc trivial (mm_t1 (mm_t1 hst))) hret)
  | lmul =>
    obtain ⟨x, y, t, rfl, hk⟩ := mm_l2_some h
    have hd := mm_dcs hok
    refine mm_one ih hk (Nat.le_refl _) (Nat.le_refl _) ?_
    intro p l e R s m args below meth c Q _ _ hN hF hc hs H locs lsA φ hHR hB hL hLR hst hret
    exact lv_lmul hF.1 hF.2.1 hd (hN hF hc hs H locs lsA φ hHR hB hL hLR (mm_cc trivial (mm_t1 (mm_t1 hst))) hret)
  | ldiv =>
    obtain ⟨x, y, t, rfl, hk⟩ := mm_l2_some h
    obtain ⟨hne, hk⟩ := mm_if_none hk
    have hd := mm_dcs hok
    refine mm_one ih hk (Nat.le_refl _) (Nat.le_refl _) ?_
    intro p l e R s m args below meth c Q _ _ hN hF hc hs H locs lsA φ hHR hB hL hLR hst hret
    exact lv_ldiv hF.1 hF.2.1 hd hne (hN hF hc hs H locs lsA φ hHR hB hL hLR (mm_cc trivial (mm_t1 (mm_t1 hst))) hret)
  | lcmp =>
    obtain ⟨x, y, t, rfl, hk⟩ := mm_l2_some h
    have hd := mm_dcs hok
    refine mm_one ih hk (Nat.le_refl _) (Nat.le_refl _) ?_
    intro p l e R s m args below meth c Q _ _ hN hF hc hs H locs lsA φ hHR hB hL hLR hst hret
    exact W.lcmp hF.1 hF.2.1 hd (hN hF hc hs H locs lsA φ hHR hB hL hLR (mm_cc trivial (mm_t1 (mm_t1 hst))) hret)
  | dup =>
    obtain ⟨v, t, rfl, hk⟩ := mm_v1_some h
    obtain ⟨hv, hk⟩ := mm_if_some hk
    have hd := mm_dcs hok
    refine mm_one ih hk (Nat.le_refl _) (Nat.le_refl _) ?_
    intro p l e R s m args below meth c Q _ _ hN hF hc hs H locs lsA φ hHR hB hL hLR hst hret
    exact lv_dup hF.1 hF.2.1 hd (mm_cat.trans (of_decide_eq_true hv)) (hN hF hc hs H locs lsA φ hHR hB hL hLR (mm_cc (mm_h1 hst) hst) hret)
  | dup2 =>
    obtain ⟨v, w, t, rfl, hk⟩ := mm_v2_some h
    obtain ⟨⟨hv, hw⟩, hk⟩ := mm_if_some hk
    have hd := mm_dcs hok
    refine mm_one ih hk (Nat.le_refl _) (Nat.le_refl _) ?_
    intro p l e R s m args below meth c Q _ _ hN hF hc hs H locs lsA φ hHR hB hL hLR hst hret
    exact lv_dup2_11 hF.1 hF.2.1 hd (mm_cat.trans (of_decide_eq_true hv)) (mm_cat.trans (of_decide_eq_true hw)) (hN hF hc hs H locs lsA φ hHR hB hL hLR (mm_cc (mm_h1 hst) (mm_cc (mm_h1 (mm_t1 hst)) hst)) hret)
  | ifCond q o =>
    have hd := mm_dcs (mm_and hok).1
    have ht := of_decide_eq_true (mm_and hok).2
    cases q with
    | eq =>
      obtain ⟨x, t, rfl, hk⟩ := mm_i1_some h
      by_cases hq : x = 0
      · rw [if_pos hq] at hk
        refine mm_one ih hk (Nat.le_refl _) (Nat.le_refl _) ?_
        intro p l e R s m args below meth c Q _ _ hN hF hc hs H locs lsA φ hHR hB hL hLR hst hret
        have KK := hN hF hc hs H locs lsA φ hHR hB hL hLR (mm_t1 hst) hret
        exact lv_if_eq hF.1 hF.2.1 hd ht (fun _ => KK) (fun z => absurd hq z)
      · rw [if_neg hq] at hk
        refine mm_one ih hk (Nat.le_refl _) (Nat.le_refl _) ?_
        intro p l e R s m args below meth c Q _ _ hN hF hc hs H locs lsA φ hHR hB hL hLR hst hret
        have KK := hN hF hc hs H locs lsA φ hHR hB hL hLR (mm_t1 hst) hret
        exact lv_if_eq hF.1 hF.2.1 hd ht (fun z => absurd z hq) (fun _ => KK)
    | ne =>
      obtain ⟨x, t, rfl, hk⟩ := mm_i1_some h
      by_cases hq : ¬ x = 0
      · rw [if_pos hq] at hk
        refine mm_one ih hk (Nat.le_refl _) (Nat.le_refl _) ?_
        intro p l e R s m args below meth c Q _ _ hN hF hc hs H locs lsA φ hHR hB hL hLR hst hret
        have KK := hN hF hc hs H locs lsA φ hHR hB hL hLR (mm_t1 hst) hret
        exact lv_if_ne hF.1 hF.2.1 hd ht (fun _ => KK) (fun z => absurd z hq)
      · rw [if_neg hq] at hk
        refine mm_one ih hk (Nat.le_refl _) (Nat.le_refl _) ?_
        intro p l e R s m args below meth c Q _ _ hN hF hc hs H locs lsA φ hHR hB hL hLR hst hret
        have KK := hN hF hc hs H locs lsA φ hHR hB hL hLR (mm_t1 hst) hret
        exact lv_if_ne hF.1 hF.2.1 hd ht (fun z => absurd z hq) (fun _ => KK)
    | lt =>
      obtain ⟨x, t, rfl, hk⟩ := mm_i1_some h
      by_cases hq : x < 0
      · rw [if_pos hq] at hk
        refine mm_one ih hk (Nat.le_refl _) (Nat.le_refl _) ?_
        intro p l e R s m args below meth c Q _ _ hN hF hc hs H locs lsA φ hHR hB hL hLR hst hret
        have KK := hN hF hc hs H locs lsA φ hHR hB hL hLR (mm_t1 hst) hret
        exact lv_if_lt hF.1 hF.2.1 hd ht (fun _ => KK) (fun z => absurd hq z)
      · rw [if_neg hq] at hk
        refine mm_one ih hk (Nat.le_refl _) (Nat.le_refl _) ?_
        intro p l e R s m args below meth c Q _ _ hN hF hc hs H locs lsA φ hHR hB hL hLR hst hret
        have KK := hN hF hc hs H locs lsA φ hHR hB hL hLR (mm_t1 hst) hret
        exact lv_if_lt hF.1 hF.2.1 hd ht (fun z => absurd z hq) (fun _ => KK)
    | ge =>
      obtain ⟨x, t, rfl, hk⟩ := mm_i1_some h
      by_cases hq : 0 ≤ x
      · rw [if_pos hq] at hk
        refine mm_one ih hk (Nat.le_refl _) (Nat.le_refl _) ?_
        intro p l e R s m args below meth c Q _ _ hN hF hc hs H locs lsA φ hHR hB hL hLR hst hret
        have KK := hN hF hc hs H locs lsA φ hHR hB hL hLR (mm_t1 hst) hret
        exact lv_if_ge hF.1 hF.2.1 hd ht (fun _ => KK) (fun z => absurd hq z)
      · rw [if_neg hq] at hk
        refine mm_one ih hk (Nat.le_refl _) (Nat.le_refl _) ?_
        intro p l e R s m args below meth c Q _ _ hN hF hc hs H locs lsA φ hHR hB hL hLR hst hret
        have KK := hN hF hc hs H locs lsA φ hHR hB hL hLR (mm_t1 hst) hret
        exact lv_if_ge hF.1 hF.2.1 hd ht (fun z => absurd z hq) (fun _ => KK)
    | gt =>
      obtain ⟨x, t, rfl, hk⟩ := mm_i1_some h
      by_cases hq : 0 < x
      · rw [if_pos hq] at hk
        refine mm_one ih hk (Nat.le_refl _) (Nat.le_refl _) ?_
        intro p l e R s m args below meth c Q _ _ hN hF hc hs H locs lsA φ hHR hB hL hLR hst hret
        have KK := hN hF hc hs H locs lsA φ hHR hB hL hLR (mm_t1 hst) hret
        exact lv_if_gt hF.1 hF.2.1 hd ht (fun _ => KK) (fun z => absurd hq z)
      · rw [if_neg hq] at hk
        refine mm_one ih hk (Nat.le_refl _) (Nat.le_refl _) ?_
        intro p l e R s m args below meth c Q _ _ hN hF hc hs H locs lsA φ hHR hB hL hLR hst hret
        have KK := hN hF hc hs H locs lsA φ hHR hB hL hLR (mm_t1 hst) hret
        exact lv_if_gt hF.1 hF.2.1 hd ht (fun z => absurd z hq) (fun _ => KK)
    | le =>
      obtain ⟨x, t, rfl, hk⟩ := mm_i1_some h
      by_cases hq : x ≤ 0
      · rw [if_pos hq] at hk
        refine mm_one ih hk (Nat.le_refl _) (Nat.le_refl _) ?_
        intro p l e R s m args below meth c Q _ _ hN hF hc hs H locs lsA φ hHR hB hL hLR hst hret
        have KK := hN hF hc hs H locs lsA φ hHR hB hL hLR (mm_t1 hst) hret
        exact lv_if_le hF.1 hF.2.1 hd ht (fun _ => KK) (fun z => absurd hq z)
      · rw [if_neg hq] at hk
        refine mm_one ih hk (Nat.le_refl _) (Nat.le_refl _) ?_
        intro p l e R s m args below meth c Q _ _ hN hF hc hs H locs lsA φ hHR hB hL hLR hst hret
        have KK := hN hF hc hs H locs lsA φ hHR hB hL hLR (mm_t1 hst) hret
        exact lv_if_le hF.1 hF.2.1 hd ht (fun z => absurd z hq) (fun _ => KK)
  | if_icmp q o =>
    have hd := mm_dcs (mm_and hok).1
    have ht := of_decide_eq_true (mm_and hok).2
    cases q with
    | eq =>
      obtain ⟨x, y, t, rfl, hk⟩ := mm_i2_some h
      by_cases hq : x = y
      · rw [if_pos hq] at hk
        refine mm_one ih hk (Nat.le_refl _) (Nat.le_refl _) ?_
        intro p l e R s m args below meth c Q _ _ hN hF hc hs H locs lsA φ hHR hB hL hLR hst hret
        have KK := hN hF hc hs H locs lsA φ hHR hB hL hLR (mm_t1 (mm_t1 hst)) hret
        exact lv_icmp_eq hF.1 hF.2.1 hd ht (fun _ => KK) (fun z => absurd hq z)
      · rw [if_neg hq] at hk
        refine mm_one ih hk (Nat.le_refl _) (Nat.le_refl _) ?_
        intro p l e R s m args below meth c Q _ _ hN hF hc hs H locs lsA φ hHR hB hL hLR hst hret
        have KK := hN hF hc hs H locs lsA φ hHR hB hL hLR (mm_t1 (mm_t1 hst)) hret
        exact lv_icmp_eq hF.1 hF.2.1 hd ht (fun z => absurd z hq) (fun _ => KK)
    | ne =>
      obtain ⟨x, y, t, rfl, hk⟩ := mm_i2_some h
      by_cases hq : ¬ x = y
      · rw [if_pos hq] at hk
        refine mm_one ih hk (Nat.le_refl _) (Nat.le_refl _) ?_
        intro p l e R s m args below meth c Q _ _ hN hF hc hs H locs lsA φ hHR hB hL hLR hst hret
        have KK := hN hF hc hs H locs lsA φ hHR hB hL hLR (mm_t1 (mm_t1 hst)) hret
        exact lv_icmp_ne hF.1 hF.2.1 hd ht (fun _ => KK) (fun z => absurd z hq)
      · rw [if_neg hq] at hk
        refine mm_one ih hk (Nat.le_refl _) (Nat.le_refl _) ?_
        intro p l e R s m args below meth c Q _ _ hN hF hc hs H locs lsA φ hHR hB hL hLR hst hret
        have KK := hN hF hc hs H locs lsA φ hHR hB hL hLR (mm_t1 (mm_t1 hst)) hret
        exact lv_icmp_ne hF.1 hF.2.1 hd ht (fun z => absurd z hq) (fun _ => KK)
    | lt =>
      obtain ⟨x, y, t, rfl, hk⟩ := mm_i2_some h
      by_cases hq : x < y
      · rw [if_pos hq] at hk
        refine mm_one ih hk (Nat.le_refl _) (Nat.le_refl _) ?_
        intro p l e R s m args below meth c Q _ _ hN hF hc hs H locs lsA φ hHR hB hL hLR hst hret
        have KK := hN hF hc hs H locs lsA φ hHR hB hL hLR (mm_t1 (mm_t1 hst)) hret
        exact lv_icmp_lt hF.1 hF.2.1 hd ht (fun _ => KK) (fun z => absurd hq z)
      · rw [if_neg hq] at hk
        refine mm_one ih hk (Nat.le_refl _) (Nat.le_refl _) ?_
        intro p l e R s m args below meth c Q _ _ hN hF hc hs H locs lsA φ hHR hB hL hLR hst hret
        have KK := hN hF hc hs H locs lsA φ hHR hB hL hLR (mm_t1 (mm_t1 hst)) hret
        exact lv_icmp_lt hF.1 hF.2.1 hd ht (fun z => absurd z hq) (fun _ => KK)
    | ge =>
      obtain ⟨x, y, t, rfl, hk⟩ := mm_i2_some h
      by_cases hq : y ≤ x
      · rw [if_pos hq] at hk
        refine mm_one ih hk (Nat.le_refl _) (Nat.le_refl _) ?_
        intro p l e R s m args below meth c Q _ _ hN hF hc hs H locs lsA φ hHR hB hL hLR hst hret
        have KK := hN hF hc hs H locs lsA φ hHR hB hL hLR (mm_t1 (mm_t1 hst)) hret
        exact lv_icmp_ge hF.1 hF.2.1 hd ht (fun _ => KK) (fun z => absurd hq z)
      · rw [if_neg hq] at hk
        refine mm_one ih hk (Nat.le_refl _) (Nat.le_refl _) ?_
        intro p l e R s m args below meth c Q _ _ hN hF hc hs H locs lsA φ hHR hB hL hLR hst hret
        have KK := hN hF hc hs H locs lsA φ hHR hB hL hLR (mm_t1 (mm_t1 hst)) hret
        exact lv_icmp_ge hF.1 hF.2.1 hd ht (fun z => absurd z hq) (fun _ => KK)
    | gt =>
      obtain ⟨x, y, t, rfl, hk⟩ := mm_i2_some h
      by_cases hq : y < x
      · rw [if_pos hq] at hk
        refine mm_one ih hk (Nat.le_refl _) (Nat.le_refl _) ?_
        intro p l e R s m args below meth c Q _ _ hN hF hc hs H locs lsA φ hHR hB hL hLR hst hret
        have KK := hN hF hc hs H locs lsA φ hHR hB hL hLR (mm_t1 (mm_t1 hst)) hret
        exact lv_icmp_gt hF.1 hF.2.1 hd ht (fun _ => KK) (fun z => absurd hq z)
      · rw [if_neg hq] at hk
        refine mm_one ih hk (Nat.le_refl _) (Nat.le_refl _) ?_
        intro p l e R s m args below meth c Q _ _ hN hF hc hs H locs lsA φ hHR hB hL hLR hst hret
        have KK := hN hF hc hs H locs lsA φ hHR hB hL hLR (mm_t1 (mm_t1 hst)) hret
        exact lv_icmp_gt hF.1 hF.2.1 hd ht (fun z => absurd z hq) (fun _ => KK)
    | le =>
      obtain ⟨x, y, t, rfl, hk⟩ := mm_i2_some h
      by_cases hq : x ≤ y
      · rw [if_pos hq] at hk
        refine mm_one ih hk (Nat.le_refl _) (Nat.le_refl _) ?_
        intro p l e R s m args below meth c Q _ _ hN hF hc hs H locs lsA φ hHR hB hL hLR hst hret
        have KK := hN hF hc hs H locs lsA φ hHR hB hL hLR (mm_t1 (mm_t1 hst)) hret
        exact lv_icmp_le hF.1 hF.2.1 hd ht (fun _ => KK) (fun z => absurd hq z)
      · rw [if_neg hq] at hk
        refine mm_one ih hk (Nat.le_refl _) (Nat.le_refl _) ?_
        intro p l e R s m args below meth c Q _ _ hN hF hc hs H locs lsA φ hHR hB hL hLR hst hret
        have KK := hN hF hc hs H locs lsA φ hHR hB hL hLR (mm_t1 (mm_t1 hst)) hret
        exact lv_icmp_le hF.1 hF.2.1 hd ht (fun z => absurd z hq) (fun _ => KK)
  | goto o =>
    have hk := h
    have ht := of_decide_eq_true (mm_and hok).2
    have hd := mm_dcs (mm_and hok).1
    refine mm_one ih hk (Nat.le_refl _) (Nat.le_refl _) ?_
    intro p l e R s m args below meth c Q _ _ hN hF hc hs H locs lsA φ hHR hB hL hLR hst hret
    exact lv_goto hF.1 hF.2.1 hd ht (hN hF hc hs H locs lsA φ hHR hB hL hLR hst hret)
  | tableswitch df lo hi offs =>
    have hd := mm_dcs hok
    obtain ⟨x, t, rfl, hk⟩ := mm_i1_some h
    obtain ⟨off, tgt, ho, ht, hk⟩ := mm_go_some hk
    refine mm_one ih hk (Nat.le_refl _) (Nat.le_refl _) ?_
    intro p l e R s m args below meth c Q _ _ hN hF hc hs H locs lsA φ hHR hB hL hLR hst hret
    have KK := hN hF hc hs H locs lsA φ hHR hB hL hLR (mm_t1 hst) hret
    by_cases hq : x.toInt < lo ∨ hi < x.toInt
    · rw [if_pos hq] at ho
      cases ho
      exact lv_tableOut hF.1 hF.2.1 hd hq ht KK
    · rw [if_neg hq] at ho
      exact lv_tableIn hF.1 hF.2.1 hd (fun z => hq (Or.inl z)) (fun z => hq (Or.inr z)) ho ht KK
  | getfield i =>
    obtain ⟨x, t, rfl, hk⟩ := mm_r1_some h
    obtain ⟨hT, hk⟩ := mm_if_some hk
    have hd := mm_dcs (mm_and hok).1
    have hf := (mm_and hok).2
    refine mm_one ih hk (Nat.le_refl _) (Nat.le_refl _) ?_
    intro p l e R s m args below meth c Q _ _ hN hF hc hs H locs lsA φ hHR hB hL hLR hst hret
    have hb : b < mm_sl S.1 a := of_decide_eq_true (mm_and (mm_and hf).2).1
    exact mm_Wget hG hF hHR hd hf hT (hN hF hc hs H locs lsA φ hHR hB hL hLR (mm_cc ((hHR.1 _ _ _ hT).2.2.2 b hb) (mm_t1 hst)) hret)
  | putfield i =>
    obtain ⟨v, x, t, rfl, hk⟩ := mm_vr_some h
    obtain ⟨⟨hT, hfit⟩, hk⟩ := mm_if_some hk
    have hd := mm_dcs (mm_and hok).1
    have hf := (mm_and (mm_and hok).2).1
    have hfin : ((mm_ck S a).2.1 b).2.2.2 = false ∨ (((mm_ck S a).2.1 b).2.2.2 = true ∧ (mm_mn S μ).name = "<init>" ∧ ((mm_ck S a).2.1 b).1 = (mm_mn S μ).cls) := by
      have h2 := (mm_and (mm_and hok).2).2
      simp only [Bool.or_eq_true, Bool.and_eq_true, decide_eq_true_eq] at h2
      exact h2
    refine mm_one ih hk (Nat.le_refl _) (Nat.le_refl _) ?_
    intro p l e R s m args below meth c Q _ _ hN hF hc hs H locs lsA φ hHR hB hL hLR hst hret
    have ha : a < mm_nc S := of_decide_eq_true (mm_and hf).1
    refine mm_Wput hG hF hHR hd hf hfin hT hfit (mm_h1 hst) (fun H1 k hHR1 hz => ?_)
    refine hN hF hc hs H1 _ lsA φ hHR1 (by rw [hz]; exact hB) (fun q hq => ?_) hLR (mm_t1 (mm_t1 hst)) hret
    rcases List.mem_append.mp hq with h1 | h1
    · exact hL q h1
    · rw [List.mem_singleton.mp h1]
      exact (hHR.1 _ _ _ hT).2.2.1 (by have := hG.2.2.1.1; omega)
  | iaload =>
    obtain ⟨j, x, t, rfl, hk⟩ := mm_ir_some h
    obtain ⟨hi, hk⟩ := mm_if_some hk
    have hd := mm_dcs hok
    refine mm_one ih hk (Nat.le_refl _) (Nat.le_refl _) ?_
    intro p l e R s m args below meth c Q _ _ hN hF hc hs H locs lsA φ hHR hB hL hLR hst hret
    obtain ⟨kd, len, hT, -, -, -, hl⟩ := mm_in_some hi
    exact mm_Wiald hF hHR hd hi (hN hF hc hs H locs lsA φ hHR hB hL hLR (mm_cc ((hHR.1 _ _ _ hT).2.2.2 _ hl) (mm_t1 (mm_t1 hst))) hret)
  | aaload =>
    obtain ⟨j, x, t, rfl, hk⟩ := mm_ir_some h
    obtain ⟨hi, hk⟩ := mm_if_some hk
    have hd := mm_dcs hok
    refine mm_one ih hk (Nat.le_refl _) (Nat.le_refl _) ?_
    intro p l e R s m args below meth c Q _ _ hN hF hc hs H locs lsA φ hHR hB hL hLR hst hret
    obtain ⟨kd, len, hT, -, -, -, hl⟩ := mm_in_some hi
    exact mm_Waald hF hHR hd hi (hN hF hc hs H locs lsA φ hHR hB hL hLR (mm_cc ((hHR.1 _ _ _ hT).2.2.2 _ hl) (mm_t1 (mm_t1 hst))) hret)
  | iastore =>
    obtain ⟨v, j, x, t, rfl, hk⟩ := mm_iir_some h
    obtain ⟨hi, hk⟩ := mm_if_some hk
    have hd := mm_dcs hok
    refine mm_one ih hk (Nat.le_refl _) (Nat.le_refl _) ?_
    intro p l e R s m args below meth c Q _ _ hN hF hc hs H locs lsA φ hHR hB hL hLR hst hret
    obtain ⟨kd, len, hT, h1, h2, -, hl⟩ := mm_in_some hi
    refine mm_Wiast hF hHR hd hi (fun H1 k hHR1 hz => ?_)
    refine hN hF hc hs H1 _ lsA φ hHR1 (by rw [hz]; exact hB) (fun q hq => ?_) hLR (mm_t1 (mm_t1 (mm_t1 hst))) hret
    rcases List.mem_append.mp hq with h1 | h1
    · exact hL q h1
    · rw [List.mem_singleton.mp h1]
      exact (hHR.1 _ _ _ hT).2.2.1 (by omega)
  | aastore =>
    obtain ⟨v, j, x, t, rfl, hk⟩ := mm_rir_some h
    obtain ⟨⟨hi, hv⟩, hk⟩ := mm_if_some hk
    have hd := mm_dcs (mm_and hok).1
    have ha : a = 102 ∨ a = 103 := by simpa using (mm_and (mm_and hok).2).1
    have hb := of_decide_eq_true (mm_and (mm_and (mm_and hok).2).2).1
    have hbn := of_decide_eq_true (mm_and (mm_and (mm_and hok).2).2).2
    refine mm_one ih hk (Nat.le_refl _) (Nat.le_refl _) ?_
    intro p l e R s m args below meth c Q _ _ hN hF hc hs H locs lsA φ hHR hB hL hLR hst hret
    obtain ⟨kd, len, hT, h1, h2, -, hl⟩ := mm_in_some hi
    refine mm_Waast hG hF hHR hd ha hb hbn hi hv (fun H1 k hHR1 hz => ?_)
    refine hN hF hc hs H1 _ lsA φ hHR1 (by rw [hz]; exact hB) (fun q hq => ?_) hLR (mm_t1 (mm_t1 (mm_t1 hst))) hret
    rcases List.mem_append.mp hq with h1 | h1
    · exact hL q h1
    · rw [List.mem_singleton.mp h1]
      exact (hHR.1 _ _ _ hT).2.2.1 (by omega)
  | arraylength =>
    obtain ⟨x, t, rfl, hk⟩ := mm_r1_some h
    obtain ⟨kd, len, hT, h1, h2, hk⟩ := mm_ln_some hk
    have hd := mm_dcs hok
    refine mm_one ih hk (Nat.le_refl _) (Nat.le_refl _) ?_
    intro p l e R s m args below meth c Q _ _ hN hF hc hs H locs lsA φ hHR hB hL hLR hst hret
    exact mm_Walen hF hHR hd hT h1 h2 (hN hF hc hs H locs lsA φ hHR hB hL hLR (mm_cc trivial (mm_t1 hst)) hret)
  | new i =>
    obtain ⟨hT, hk⟩ := mm_if_some h
    have hd := mm_dcs (mm_and hok).1
    have ha := of_decide_eq_true (mm_and (mm_and hok).2).1
    have hw := of_decide_eq_true (mm_and (mm_and hok).2).2
    refine mm_one ih hk (Nat.le_succ _) (Nat.le_add_right _ _) ?_
    intro p l e R s m args below meth c Q hc1 hs1 hN hF hc hs H locs lsA φ hHR hB hL hLR hst hret
    refine mm_Wnew hG hF hHR hB hd ha hw hT (Nat.le_trans hc1 hc) (Nat.le_trans hs1 hs) (fun H1 hHR1 hz => ?_)
    have hE := mm_new_ext (φ := φ) (q := H.size) (kd := a) (len := mm_sl S.1 a) hT
    have KK := hN hF hc hs H1 locs lsA _ hHR1 (by rw [hz]; omega) hL (hLR.ext hE) (mm_cc (mm_new_lv hT) (fun v hv => mm_lv_ext hE (hst v hv))) (hret.ext hE)
    rw [List.map_cons, mm_map_ext hE hst, mm_new_cv] at KK
    exact KK
  | newarray ty =>
    obtain ⟨k, t, rfl, hk⟩ := mm_i1_some h
    obtain ⟨⟨hT, h0, h1⟩, hk⟩ := mm_if_some hk
    have hd := mm_dcs (mm_and hok).1
    have hty := of_decide_eq_true (mm_and hok).2
    subst hty
    refine mm_one ih hk (Nat.le_succ _) (Nat.le_add_right _ _) ?_
    intro p l e R s m args below meth c Q hc1 hs1 hN hF hc hs H locs lsA φ hHR hB hL hLR hst hret
    refine mm_Wnewa hG hF hHR hB hd hT (Int32.not_lt.mpr h0) h1 (Nat.le_trans hc1 hc) (Nat.le_trans hs1 hs) (fun H1 hHR1 hz => ?_)
    have hE := mm_new_ext (φ := φ) (q := H.size) (kd := 100) (len := k.toNatClampNeg) hT
    have KK := hN hF hc hs H1 locs lsA _ hHR1 (by rw [hz]; omega) hL (hLR.ext hE) (mm_cc (mm_new_lv hT) (fun v hv => mm_lv_ext hE (mm_t1 hst v hv))) (hret.ext hE)
    rw [List.map_cons, mm_map_ext hE (mm_t1 hst), mm_new_cv] at KK
    exact KK
  | anewarray i =>
    obtain ⟨k, t, rfl, hk⟩ := mm_i1_some h
    obtain ⟨⟨hT, h0, h1⟩, hk⟩ := mm_if_some hk
    have hd := mm_dcs (mm_and hok).1
    have ha : a = 102 ∨ a = 103 := by simpa using (mm_and (mm_and hok).2).1
    have hw := of_decide_eq_true (mm_and (mm_and hok).2).2
    refine mm_one ih hk (Nat.le_succ _) (Nat.le_add_right _ _) ?_
    intro p l e R s m args below meth c Q hc1 hs1 hN hF hc hs H locs lsA φ hHR hB hL hLR hst hret
    refine mm_Wnewq hG hF hHR hB hd ha hw hT (Int32.not_lt.mpr h0) h1 (Nat.le_trans hc1 hc) (Nat.le_trans hs1 hs) (fun H1 hHR1 hz => ?_)
    have hE := mm_new_ext (φ := φ) (q := H.size) (kd := a) (len := k.toNatClampNeg) hT
    have KK := hN hF hc hs H1 locs lsA _ hHR1 (by rw [hz]; omega) hL (hLR.ext hE) (mm_cc (mm_new_lv hT) (fun v hv => mm_lv_ext hE (mm_t1 hst v hv))) (hret.ext hE)
    rw [List.map_cons, mm_map_ext hE (mm_t1 hst), mm_new_cv] at KK
    exact KK
  | invokestatic i =>
    have hd := mm_dcs (mm_and hok).1
    have hl := (mm_and hok).2
    by_cases ha : a = 999
    · rw [if_pos ha] at h hl
      obtain ⟨hd0, h⟩ := mm_if_none h
      obtain ⟨x, y, t, rfl, hk⟩ := mm_i2_some h
      obtain ⟨hlen, hk⟩ := mm_if_some hk
      have hw := of_decide_eq_true hl
      refine mm_one ih hk (Nat.le_refl _) (Nat.le_refl _) ?_
      intro p l e R s m args below meth c Q hc1 hs1 hN hF hc hs H locs lsA φ hHR hB hL hLR hst hret
      have KK := hN hF hc hs H locs lsA φ hHR hB hL hLR (mm_cc trivial (mm_t1 (mm_t1 hst))) hret
      obtain ⟨hx, hbb, hml, hown, hts, hin, hCK, ⟨hfr, hNK⟩, hlo⟩ := hF
      have hcs := mm_catsum (t.map (mm_cv φ))
      rw [List.length_map] at hcs
      exact va_mmax hx hbb (hml.trans hLR.1.symm) hown (hts _ (List.mem_of_getElem? hw)) (hts _ hG.2.2.2.2.2.2.1) (hts _ hG.2.2.2.2.2.2.2.1) (hts _ hG.2.2.2.2.2.2.2.2) (by omega) (by omega) (Nat.le_trans hc1 hc) (Nat.le_trans hs1 hs) hd KK
    · rw [if_neg ha] at h hl
      exact mm_call0 hG ih hd hl h
  | invokevirtual i =>
    obtain ⟨hrv, hk⟩ := mm_if_some h
    exact mm_call1 hG ih (mm_dcs (mm_and hok).1) (mm_and hok).2 hrv hk
  | invokespecial i =>
    have hd := mm_dcs (mm_and hok).1
    have hl := (mm_and hok).2
    by_cases ha : a = 998
    · rw [if_pos ha] at h hl
      obtain ⟨hd0, h⟩ := mm_if_none h
      obtain ⟨x, t, rfl, hk⟩ := mm_r1_some h
      obtain ⟨hlen, hk⟩ := mm_if_some hk
      have hw := of_decide_eq_true hl
      refine mm_one ih hk (Nat.le_refl _) (Nat.le_refl _) ?_
      intro p l e R s m args below meth c Q hc1 hs1 hN hF hc hs H locs lsA φ hHR hB hL hLR hst hret
      have KK := hN hF hc hs H locs lsA φ hHR hB hL hLR (mm_t1 hst) hret
      obtain ⟨hx, hbb, hml, hown, hts, hin, hCK, ⟨hfr, hNK⟩, hlo⟩ := hF
      have hcs := mm_catsum (t.map (mm_cv φ))
      rw [List.length_map] at hcs
      exact W.objInit hx hbb hown (hts _ (List.mem_of_getElem? hw)) (hts _ hG.2.2.2.2.2.1.1) (hts _ hG.2.2.2.2.2.1.2) rfl (hLR.1.trans hml.symm) rfl hd (by omega) (by show 2 * 0 + _ + 12 ≤ _; omega) KK
    · rw [if_neg ha] at h hl
      obtain ⟨hrf, hk⟩ := mm_if_some h
      by_cases h3 : (mm_km S a).1 = 3
      · rw [if_pos h3] at hl
        exact mm_call3 hG ih hd hl hrf hk
      · rw [if_neg h3] at hl
        exact mm_call2 hG ih hd hl hrf hk
  | ireturn =>
    obtain ⟨x, t, rfl, hk⟩ := mm_i1_some h
    obtain ⟨⟨ht, hb⟩, hk2⟩ := mm_if_some hk
    subst ht
    cases hk2
    have hd := mm_dcs hok
    refine ⟨⟨⟨Nat.le_refl _, Nat.le_refl _⟩, Or.inr ⟨x, rfl⟩⟩, ?_⟩
    intro p l e R s m args below meth c Q hF hc hs H locs lsA φ hHR hB hL hLR hst hret
    exact (hret φ H locs pc lsA hHR hB hL mm_ext.rf).1 x rfl hb hd
  | return_ =>
    obtain ⟨⟨rfl, hb⟩, hk⟩ := mm_if_some h
    cases hk
    have hd := mm_dcs hok
    refine ⟨⟨⟨Nat.le_refl _, Nat.le_refl _⟩, Or.inl rfl⟩, ?_⟩
    intro p l e R s m args below meth c Q hF hc hs H locs lsA φ hHR hB hL hLR hst hret
    exact (hret φ H locs pc lsA hHR hB hL mm_ext.rf).2 rfl hb hd
  | _ => cases h
theorem mm_all {S : mm_S} {Y : mm_Y} (hG : mm_Good S) : ∀ n, mm_IH S Y n
  | 0 => fun _ _ _ _ _ _ _ h => by cases h
  | n + 1 => mm_step hG (mm_all hG n)
end
section
/-! more steps answer no less -/
set_option maxHeartbeats 4000000 in
set_option maxRecDepth 20000 in
theorem mm_stp_mono {G : mm_G} {f f' : mm_F} (hf : ∀ d μ pc ls st g r, f d μ pc ls st g = some r → f' d μ pc ls st g = some r) {d μ pc : Nat} {ls st : List Value} {g : mm_M} {r : mm_R} (h : mm_stp G f d μ pc ls st g = some r) : mm_stp G f' d μ pc ls st g = some r := by
  have hcl : ∀ {a b : Nat}, mm_cl G f d μ pc a b ls st g = some r → mm_cl G f' d μ pc a b ls st g = some r := by
    intro a b h
    cases d with
    | zero => cases h
    | succ d =>
    unfold mm_cl at h ⊢
    obtain ⟨hc, h⟩ := mm_if_some h
    refine (if_pos hc).trans ?_
    split at h
    · rename_i q hq
      rw [hf _ _ _ _ _ _ _ hq]
      exact hf _ _ _ _ _ _ _ h
    · cases h
  unfold mm_stp at h ⊢
  split at h
  · cases h
  rename_i ins a b w htb
  cases ins with
  | iconst k =>
    exact hf _ _ _ _ _ _ _ h
  | bipush k =>
    exact hf _ _ _ _ _ _ _ h
  | sipush k =>
    exact hf _ _ _ _ _ _ _ h
  | lconst k =>
    exact hf _ _ _ _ _ _ _ h
  | goto o =>
    exact hf _ _ _ _ _ _ _ h
  | iload i =>
    obtain ⟨x, hx, h⟩ := mm_oi_some h
    show mm_oi (mm_ld ls i) _ = _
    rw [hx]
    exact hf _ _ _ _ _ _ _ h
  | iload_n i =>
    obtain ⟨x, hx, h⟩ := mm_oi_some h
    show mm_oi (mm_ld ls i) _ = _
    rw [hx]
    exact hf _ _ _ _ _ _ _ h
  | aload i =>
    obtain ⟨x, hx, h⟩ := mm_or_some h
    show mm_or (mm_ld ls i) _ = _
    rw [hx]
    exact hf _ _ _ _ _ _ _ h
  | aload_n i =>
    obtain ⟨x, hx, h⟩ := mm_or_some h
    show mm_or (mm_ld ls i) _ = _
    rw [hx]
    exact hf _ _ _ _ _ _ _ h
  | lload i =>
    obtain ⟨x, hx, h⟩ := mm_ol_some h
    show mm_ol (mm_ld ls i) _ = _
    rw [hx]
    exact hf _ _ _ _ _ _ _ h
  | lload_n i =>
    obtain ⟨x, hx, h⟩ := mm_ol_some h
    show mm_ol (mm_ld ls i) _ = _
    rw [hx]
    exact hf _ _ _ _ _ _ _ h
  | istore i =>
    obtain ⟨x, t, rfl, hk⟩ := mm_i1_some h
    obtain ⟨hc, hk⟩ := mm_if_some hk
    exact (if_pos hc).trans (hf _ _ _ _ _ _ _ hk)
  | istore_n i =>
    obtain ⟨x, t, rfl, hk⟩ := mm_i1_some h
    obtain ⟨hc, hk⟩ := mm_if_some hk
    exact (if_pos hc).trans (hf _ _ _ _ _ _ _ hk)
  | astore i =>
    obtain ⟨x, t, rfl, hk⟩ := mm_r1_some h
    obtain ⟨hc, hk⟩ := mm_if_some hk
    exact (if_pos hc).trans (hf _ _ _ _ _ _ _ hk)
  | astore_n i =>
    obtain ⟨x, t, rfl, hk⟩ := mm_r1_some h
    obtain ⟨hc, hk⟩ := mm_if_some hk
    exact (if_pos hc).trans (hf _ _ _ _ _ _ _ hk)
  | lstore i =>
    obtain ⟨x, t, rfl, hk⟩ := mm_l1_some h
    obtain ⟨hc, hk⟩ := mm_if_some hk
    exact (if_pos hc).trans (hf _ _ _ _ _ _ _ hk)
  | lstore_n i =>
    obtain ⟨x, t, rfl, hk⟩ := mm_l1_some h
    obtain ⟨hc, hk⟩ := mm_if_some hk
    exact (if_pos hc).trans (hf _ _ _ _ _ _ _ hk)
  | iinc i k =>
    obtain ⟨x, hx, h⟩ := mm_oi_some h
    obtain ⟨hc, h⟩ := mm_if_some h
    show mm_oi (mm_ld ls i) _ = _
    rw [hx]
    exact (if_pos hc).trans (hf _ _ _ _ _ _ _ h)
  | iadd =>
    obtain ⟨x, y, t, rfl, hk⟩ := mm_i2_some h
    exact hf _ _ _ _ _ _ _ hk
  | isub =>
    obtain ⟨x, y, t, rfl, hk⟩ := mm_i2_some h
    exact hf _ _ _ _ _ _ _ hk
  | imul =>
    obtain ⟨x, y, t, rfl, hk⟩ := mm_i2_some h
    exact hf _ _ _ _ _ _ _ hk
  | iand =>
    obtain ⟨x, y, t, rfl, hk⟩ := mm_i2_some h
    exact hf _ _ _ _ _ _ _ hk
  | ladd =>
    obtain ⟨x, y, t, rfl, hk⟩ := mm_l2_some h
    exact hf _ _ _ _ _ _ _ hk
  | lsub =>
    obtain ⟨x, y, t, rfl, hk⟩ := mm_l2_some h
    exact hf _ _ _ _ _ _ _ hk
  | lmul =>
    obtain ⟨x, y, t, rfl, hk⟩ := mm_l2_some h
    exact hf _ _ _ _ _ _ _ hk
  | lcmp =>
    obtain ⟨x, y, t, rfl, hk⟩ := mm_l2_some h
    exact hf _ _ _ _ _ _ _ hk
  | ldiv =>
    obtain ⟨x, y, t, rfl, hk⟩ := mm_l2_some h
    obtain ⟨hc, hk⟩ := mm_if_none hk
    exact (if_neg hc).trans (hf _ _ _ _ _ _ _ hk)
  | i2l =>
    obtain ⟨x, t, rfl, hk⟩ := mm_i1_some h
    exact hf _ _ _ _ _ _ _ hk
  | dup =>
    obtain ⟨v, t, rfl, hk⟩ := mm_v1_some h
    obtain ⟨hc, hk⟩ := mm_if_some hk
    exact (if_pos hc).trans (hf _ _ _ _ _ _ _ hk)
  | dup2 =>
    obtain ⟨v, w, t, rfl, hk⟩ := mm_v2_some h
    obtain ⟨hc, hk⟩ := mm_if_some hk
    exact (if_pos hc).trans (hf _ _ _ _ _ _ _ hk)
  | ifCond q o =>
    cases q with
    | eq =>
      obtain ⟨x, t, rfl, hk⟩ := mm_i1_some h
      by_cases hq : x = 0
      · rw [if_pos hq] at hk
        exact (if_pos hq).trans (hf _ _ _ _ _ _ _ hk)
      · rw [if_neg hq] at hk
        exact (if_neg hq).trans (hf _ _ _ _ _ _ _ hk)
    | ne =>
      obtain ⟨x, t, rfl, hk⟩ := mm_i1_some h
      by_cases hq : ¬ x = 0
      · rw [if_pos hq] at hk
        exact (if_pos hq).trans (hf _ _ _ _ _ _ _ hk)
      · rw [if_neg hq] at hk
        exact (if_neg hq).trans (hf _ _ _ _ _ _ _ hk)
    | lt =>
      obtain ⟨x, t, rfl, hk⟩ := mm_i1_some h
      by_cases hq : x < 0
      · rw [if_pos hq] at hk
        exact (if_pos hq).trans (hf _ _ _ _ _ _ _ hk)
      · rw [if_neg hq] at hk
        exact (if_neg hq).trans (hf _ _ _ _ _ _ _ hk)
    | ge =>
      obtain ⟨x, t, rfl, hk⟩ := mm_i1_some h
      by_cases hq : 0 ≤ x
      · rw [if_pos hq] at hk
        exact (if_pos hq).trans (hf _ _ _ _ _ _ _ hk)
      · rw [if_neg hq] at hk
        exact (if_neg hq).trans (hf _ _ _ _ _ _ _ hk)
    | gt =>
      obtain ⟨x, t, rfl, hk⟩ := mm_i1_some h
      by_cases hq : 0 < x
      · rw [if_pos hq] at hk
        exact (if_pos hq).trans (hf _ _ _ _ _ _ _ hk)
      · rw [if_neg hq] at hk
        exact (if_neg hq).trans (hf _ _ _ _ _ _ _ hk)
    | le =>
      obtain ⟨x, t, rfl, hk⟩ := mm_i1_some h
      by_cases hq : x ≤ 0
      · rw [if_pos hq] at hk
        exact (if_pos hq).trans (hf _ _ _ _ _ _ _ hk)
      · rw [if_neg hq] at hk
        exact (if_neg hq).trans (hf _ _ _ _ _ _ _ hk)
  | if_icmp q o =>
    cases q with
    | eq =>
      obtain ⟨x, y, t, rfl, hk⟩ := mm_i2_some h
      by_cases hq : x = y
      · rw [if_pos hq] at hk
        exact (if_pos hq).trans (hf _ _ _ _ _ _ _ hk)
      · rw [if_neg hq] at hk
        exact (if_neg hq).trans (hf _ _ _ _ _ _ _ hk)
    | ne =>
      obtain ⟨x, y, t, rfl, hk⟩ := mm_i2_some h
      by_cases hq : ¬ x = y
      · rw [if_pos hq] at hk
        exact (if_pos hq).trans (hf _ _ _ _ _ _ _ hk)
      · rw [if_neg hq] at hk
        exact (if_neg hq).trans (hf _ _ _ _ _ _ _ hk)
    | lt =>
      obtain ⟨x, y, t, rfl, hk⟩ := mm_i2_some h
      by_cases hq : x < y
      · rw [if_pos hq] at hk
        exact (if_pos hq).trans (hf _ _ _ _ _ _ _ hk)
      · rw [if_neg hq] at hk
        exact (if_neg hq).trans (hf _ _ _ _ _ _ _ hk)
    | ge =>
      obtain ⟨x, y, t, rfl, hk⟩ := mm_i2_some h
      by_cases hq : y ≤ x
      · rw [if_pos hq] at hk
        exact (if_pos hq).trans (hf _ _ _ _ _ _ _ hk)
      · rw [if_neg hq] at hk
        exact (if_neg hq).trans (hf _ _ _ _ _ _ _ hk)
    | gt =>
      obtain ⟨x, y, t, rfl, hk⟩ := mm_i2_some h
      by_cases hq : y < x
      · rw [if_pos hq] at hk
        exact (if_pos hq).trans (hf _ _ _ _ _ _ _ hk)
      · rw [if_neg hq] at hk
        exact (if_neg hq).trans (hf _ _ _ _ _ _ _ hk)
    | le =>
      obtain ⟨x, y, t, rfl, hk⟩ := mm_i2_some h
      by_cases hq : x ≤ y
      · rw [if_pos hq] at hk
        exact (if_pos hq).trans (hf _ _ _ _ _ _ _ hk)
      · rw [if_neg hq] at hk
        exact (if_neg hq).trans (hf _ _ _ _ _ _ _ hk)
  | tableswitch df lo hi offs =>
    obtain ⟨x, t, rfl, hk⟩ := mm_i1_some h
    refine (show mm_go (if x.toInt < lo ∨ hi < x.toInt then some df else offs[(x.toInt - lo).toNat]?) pc (fun tt => f' d μ tt ls t g) = some r from ?_)
    unfold mm_go at hk ⊢
    split at hk
    · rename_i off hoff
      obtain ⟨hc, hk⟩ := mm_if_some hk
      exact (if_pos hc).trans (hf _ _ _ _ _ _ _ hk)
    · cases hk
  | getfield i =>
    obtain ⟨x, t, rfl, hk⟩ := mm_r1_some h
    obtain ⟨hc, hk⟩ := mm_if_some hk
    exact (if_pos hc).trans (hf _ _ _ _ _ _ _ hk)
  | putfield i =>
    obtain ⟨v, x, t, rfl, hk⟩ := mm_vr_some h
    obtain ⟨hc, hk⟩ := mm_if_some hk
    exact (if_pos hc).trans (hf _ _ _ _ _ _ _ hk)
  | iaload =>
    obtain ⟨j, x, t, rfl, hk⟩ := mm_ir_some h
    obtain ⟨hc, hk⟩ := mm_if_some hk
    exact (if_pos hc).trans (hf _ _ _ _ _ _ _ hk)
  | aaload =>
    obtain ⟨j, x, t, rfl, hk⟩ := mm_ir_some h
    obtain ⟨hc, hk⟩ := mm_if_some hk
    exact (if_pos hc).trans (hf _ _ _ _ _ _ _ hk)
  | iastore =>
    obtain ⟨v, j, x, t, rfl, hk⟩ := mm_iir_some h
    obtain ⟨hc, hk⟩ := mm_if_some hk
    exact (if_pos hc).trans (hf _ _ _ _ _ _ _ hk)
  | aastore =>
    obtain ⟨v, j, x, t, rfl, hk⟩ := mm_rir_some h
    obtain ⟨hc, hk⟩ := mm_if_some hk
    exact (if_pos hc).trans (hf _ _ _ _ _ _ _ hk)
  | arraylength =>
    obtain ⟨x, t, rfl, hk⟩ := mm_r1_some h
    obtain ⟨kd, len, hT, h1, h2, hk⟩ := mm_ln_some hk
    show mm_ln (g.1 x) _ = some r
    rw [hT]
    exact (if_pos ⟨h1, h2⟩).trans (hf _ _ _ _ _ _ _ hk)
  | new i =>
    obtain ⟨hc, h⟩ := mm_if_some h
    exact (if_pos hc).trans (hf _ _ _ _ _ _ _ h)
  | newarray ty =>
    obtain ⟨k, t, rfl, hk⟩ := mm_i1_some h
    obtain ⟨hc, hk⟩ := mm_if_some hk
    exact (if_pos hc).trans (hf _ _ _ _ _ _ _ hk)
  | anewarray i =>
    obtain ⟨k, t, rfl, hk⟩ := mm_i1_some h
    obtain ⟨hc, hk⟩ := mm_if_some hk
    exact (if_pos hc).trans (hf _ _ _ _ _ _ _ hk)
  | invokestatic i =>
    by_cases ha : a = 999
    · rw [if_pos ha] at h
      obtain ⟨hd0, h⟩ := mm_if_none h
      obtain ⟨x, y, t, rfl, hk⟩ := mm_i2_some h
      obtain ⟨hc, hk⟩ := mm_if_some hk
      exact (if_pos ha).trans ((if_neg hd0).trans ((if_pos hc).trans (hf _ _ _ _ _ _ _ hk)))
    · rw [if_neg ha] at h
      exact (if_neg ha).trans (hcl h)
  | invokevirtual i =>
    obtain ⟨hc, h⟩ := mm_if_some h
    exact (if_pos hc).trans (hcl h)
  | invokespecial i =>
    by_cases ha : a = 998
    · rw [if_pos ha] at h
      obtain ⟨hd0, h⟩ := mm_if_none h
      obtain ⟨x, t, rfl, hk⟩ := mm_r1_some h
      obtain ⟨hc, hk⟩ := mm_if_some hk
      exact (if_pos ha).trans ((if_neg hd0).trans ((if_pos hc).trans (hf _ _ _ _ _ _ _ hk)))
    · rw [if_neg ha] at h
      obtain ⟨hc, h⟩ := mm_if_some h
      exact (if_neg ha).trans ((if_pos hc).trans (hcl h))
  | ireturn => exact h
  | return_ => exact h
  | _ => cases h
theorem mm_mono1 {G : mm_G} : ∀ (n : Nat) (d μ pc : Nat) (ls st : List Value) (g : mm_M) (r : mm_R), mm_run G n d μ pc ls st g = some r → mm_run G (n + 1) d μ pc ls st g = some r
  | 0, _, _, _, _, _, _, _, h => by cases h
  | n + 1, d, μ, pc, ls, st, g, r, h => mm_stp_mono (f := mm_run G n) (f' := mm_run G (n + 1)) (mm_mono1 n) h
theorem mm_mono {G : mm_G} {n k d μ pc : Nat} {ls st : List Value} {g : mm_M} {r : mm_R} (h : mm_run G n d μ pc ls st g = some r) (hk : n ≤ k) : mm_run G k d μ pc ls st g = some r := by
  induction hk with
  | refl => exact h
  | step _ ih => exact mm_mono1 _ _ _ _ _ _ _ _ ih
/-- from here it answers r -/
def mm_Rn (G : mm_G) (d μ pc : Nat) (ls st : List Value) (g : mm_M) (r : mm_R) : Prop := ∃ n, mm_run G n d μ pc ls st g = some r
theorem mm_det {G : mm_G} {d μ pc : Nat} {ls st : List Value} {g : mm_M} {r r' : mm_R} (h : mm_Rn G d μ pc ls st g r) (h' : mm_Rn G d μ pc ls st g r') : r = r' := by
  obtain ⟨n, h⟩ := h
  obtain ⟨k, h'⟩ := h'
  have a := mm_mono h (Nat.le_max_left n k)
  have b := mm_mono h' (Nat.le_max_right n k)
  exact Option.some.inj (a.symm.trans b)
theorem mm_Rn_step {G : mm_G} {d μ pc pc' : Nat} {ls st ls' st' : List Value} {g g' : mm_M} (hs : ∀ f : mm_F, mm_stp G f d μ pc ls st g = f d μ pc' ls' st' g') (r : mm_R) : mm_Rn G d μ pc ls st g r ↔ mm_Rn G d μ pc' ls' st' g' r := by
  constructor
  · rintro ⟨n, h⟩
    cases n with
    | zero => cases h
    | succ n => exact ⟨n, (hs (mm_run G n)).symm.trans h⟩
  · rintro ⟨n, h⟩
    exact ⟨n + 1, (hs (mm_run G n)).trans h⟩
theorem mm_Rn_ret {G : mm_G} {d μ pc : Nat} {ls st : List Value} {g : mm_M} {r : mm_R} (hs : ∀ f : mm_F, mm_stp G f d μ pc ls st g = some r) : mm_Rn G d μ pc ls st g r := ⟨1, hs _⟩
/-- the callee's answer, and what follows -/
theorem mm_Rn_call {G : mm_G} {d μ pc μ' n : Nat} {ls st : List Value} {g : mm_M} {q r : mm_R} (hs : ∀ f : mm_F, mm_stp G f (d + 1) μ pc ls st g = mm_cl G f (d + 1) μ pc μ' n ls st g) (hc : n ≤ st.length ∧ (st.drop n).length ≤ 4 ∧ (st.take n).all mm_ar = true)
    (hq : mm_Rn G d μ' 0 ((st.take n).reverse ++ List.replicate (mm_mx G μ' - n) (.retAddr 0)) [] (g.1, g.2.1, 0, 0) q) :
    mm_Rn G (d + 1) μ pc ls st g r ↔ mm_Rn G (d + 1) μ (pc + 3) ls (q.1.toList ++ st.drop n) (q.2.1, q.2.2.1, g.2.2.1 + q.2.2.2.1, g.2.2.2 + q.2.2.2.2) r := by
  constructor
  · rintro ⟨k, h⟩
    cases k with
    | zero => cases h
    | succ k =>
    have h : mm_stp G (mm_run G k) (d + 1) μ pc ls st g = some r := h
    rw [hs] at h
    unfold mm_cl at h
    obtain ⟨-, h⟩ := mm_if_some h
    split at h
    · rename_i q' hq'
      have : q = q' := mm_det hq ⟨k, hq'⟩
      subst this
      exact ⟨k, h⟩
    · cases h
  · rintro ⟨k, h⟩
    obtain ⟨k', hq⟩ := hq
    refine ⟨max k k' + 1, ?_⟩
    show mm_stp G (mm_run G (max k k')) (d + 1) μ pc ls st g = some r
    rw [hs]
    unfold mm_cl
    refine (if_pos hc).trans ?_
    rw [mm_mono hq (Nat.le_max_right k k')]
    exact mm_mono h (Nat.le_max_left k k')
theorem rn_iconst {G : mm_G} {d μ pc a b w : Nat} {ls t : List Value} {g : mm_M} {k : Int} (h : mm_tb G μ pc = some (.iconst k, a, b, w)) (r : mm_R) : mm_Rn G d μ pc ls (t) g r ↔ mm_Rn G d μ (pc + 1) (ls) (.int (Int32.ofInt k) :: t) (g) r :=
  mm_Rn_step (fun f => by unfold mm_stp; rw [h] <;> rfl) r
theorem rn_bipush {G : mm_G} {d μ pc a b w : Nat} {ls t : List Value} {g : mm_M} {k : Int} (h : mm_tb G μ pc = some (.bipush k, a, b, w)) (r : mm_R) : mm_Rn G d μ pc ls (t) g r ↔ mm_Rn G d μ (pc + 2) (ls) (.int (Int32.ofInt k) :: t) (g) r :=
  mm_Rn_step (fun f => by unfold mm_stp; rw [h] <;> rfl) r
theorem rn_sipush {G : mm_G} {d μ pc a b w : Nat} {ls t : List Value} {g : mm_M} {k : Int} (h : mm_tb G μ pc = some (.sipush k, a, b, w)) (r : mm_R) : mm_Rn G d μ pc ls (t) g r ↔ mm_Rn G d μ (pc + 3) (ls) (.int (Int32.ofInt k) :: t) (g) r :=
  mm_Rn_step (fun f => by unfold mm_stp; rw [h] <;> rfl) r
theorem rn_lconst {G : mm_G} {d μ pc a b w : Nat} {ls t : List Value} {g : mm_M} {k : Fin 2} (h : mm_tb G μ pc = some (.lconst k, a, b, w)) (r : mm_R) : mm_Rn G d μ pc ls (t) g r ↔ mm_Rn G d μ (pc + 1) (ls) (.long (Int64.ofNat k) :: t) (g) r :=
  mm_Rn_step (fun f => by unfold mm_stp; rw [h] <;> rfl) r
theorem rn_iload {G : mm_G} {d μ pc a b w : Nat} {ls t : List Value} {g : mm_M} {i : Nat} {x : Int32} (h : mm_tb G μ pc = some (.iload i, a, b, w)) (hx : mm_ld ls i = .int x) (r : mm_R) : mm_Rn G d μ pc ls (t) g r ↔ mm_Rn G d μ (pc + 2) (ls) (.int x :: t) (g) r :=
  mm_Rn_step (fun f => by unfold mm_stp; rw [h]; show mm_oi (mm_ld ls i) _ = _; rw [hx]; rfl) r
theorem rn_iload_n {G : mm_G} {d μ pc a b w : Nat} {ls t : List Value} {g : mm_M} {i : Fin 4} {x : Int32} (h : mm_tb G μ pc = some (.iload_n i, a, b, w)) (hx : mm_ld ls i = .int x) (r : mm_R) : mm_Rn G d μ pc ls (t) g r ↔ mm_Rn G d μ (pc + 1) (ls) (.int x :: t) (g) r :=
  mm_Rn_step (fun f => by unfold mm_stp; rw [h]; show mm_oi (mm_ld ls i) _ = _; rw [hx]; rfl) r
theorem rn_istore {G : mm_G} {d μ pc a b w : Nat} {ls t : List Value} {g : mm_M} {i : Nat} {x : Int32} (h : mm_tb G μ pc = some (.istore i, a, b, w)) (hc : mm_so ls i 1 = true) (r : mm_R) : mm_Rn G d μ pc ls (.int x :: t) g r ↔ mm_Rn G d μ (pc + 2) (ls.set i (.int x)) (t) (g) r :=
  mm_Rn_step (fun f => by unfold mm_stp; rw [h]; exact if_pos hc) r
theorem rn_istore_n {G : mm_G} {d μ pc a b w : Nat} {ls t : List Value} {g : mm_M} {i : Fin 4} {x : Int32} (h : mm_tb G μ pc = some (.istore_n i, a, b, w)) (hc : mm_so ls i 1 = true) (r : mm_R) : mm_Rn G d μ pc ls (.int x :: t) g r ↔ mm_Rn G d μ (pc + 1) (ls.set i (.int x)) (t) (g) r :=
  mm_Rn_step (fun f => by unfold mm_stp; rw [h]; exact if_pos hc) r
theorem rn_aload {G : mm_G} {d μ pc a b w : Nat} {ls t : List Value} {g : mm_M} {i : Nat} {x : Nat} (h : mm_tb G μ pc = some (.aload i, a, b, w)) (hx : mm_ld ls i = .ref x) (r : mm_R) : mm_Rn G d μ pc ls (t) g r ↔ mm_Rn G d μ (pc + 2) (ls) (.ref x :: t) (g) r :=
  mm_Rn_step (fun f => by unfold mm_stp; rw [h]; show mm_or (mm_ld ls i) _ = _; rw [hx]; rfl) r
theorem rn_aload_n {G : mm_G} {d μ pc a b w : Nat} {ls t : List Value} {g : mm_M} {i : Fin 4} {x : Nat} (h : mm_tb G μ pc = some (.aload_n i, a, b, w)) (hx : mm_ld ls i = .ref x) (r : mm_R) : mm_Rn G d μ pc ls (t) g r ↔ mm_Rn G d μ (pc + 1) (ls) (.ref x :: t) (g) r :=
  mm_Rn_step (fun f => by unfold mm_stp; rw [h]; show mm_or (mm_ld ls i) _ = _; rw [hx]; rfl) r
theorem rn_astore {G : mm_G} {d μ pc a b w : Nat} {ls t : List Value} {g : mm_M} {i : Nat} {x : Nat} (h : mm_tb G μ pc = some (.astore i, a, b, w)) (hc : mm_so ls i 1 = true) (r : mm_R) : mm_Rn G d μ pc ls (.ref x :: t) g r ↔ mm_Rn G d μ (pc + 2) (ls.set i (.ref x)) (t) (g) r :=
  mm_Rn_step (fun f => by unfold mm_stp; rw [h]; exact if_pos hc) r
theorem rn_astore_n {G : mm_G} {d μ pc a b w : Nat} {ls t : List Value} {g : mm_M} {i : Fin 4} {x : Nat} (h : mm_tb G μ pc = some (.astore_n i, a, b, w)) (hc : mm_so ls i 1 = true) (r : mm_R) : mm_Rn G d μ pc ls (.ref x :: t) g r ↔ mm_Rn G d μ (pc + 1) (ls.set i (.ref x)) (t) (g) r :=
  mm_Rn_step (fun f => by unfold mm_stp; rw [h]; exact if_pos hc) r
theorem rn_lload {G : mm_G} {d μ pc a b w : Nat} {ls t : List Value} {g : mm_M} {i : Nat} {x : Int64} (h : mm_tb G μ pc = some (.lload i, a, b, w)) (hx : mm_ld ls i = .long x) (r : mm_R) : mm_Rn G d μ pc ls (t) g r ↔ mm_Rn G d μ (pc + 2) (ls) (.long x :: t) (g) r :=
  mm_Rn_step (fun f => by unfold mm_stp; rw [h]; show mm_ol (mm_ld ls i) _ = _; rw [hx]; rfl) r
theorem rn_lload_n {G : mm_G} {d μ pc a b w : Nat} {ls t : List Value} {g : mm_M} {i : Fin 4} {x : Int64} (h : mm_tb G μ pc = some (.lload_n i, a, b, w)) (hx : mm_ld ls i = .long x) (r : mm_R) : mm_Rn G d μ pc ls (t) g r ↔ mm_Rn G d μ (pc + 1) (ls) (.long x :: t) (g) r :=
  mm_Rn_step (fun f => by unfold mm_stp; rw [h]; show mm_ol (mm_ld ls i) _ = _; rw [hx]; rfl) r
theorem rn_lstore {G : mm_G} {d μ pc a b w : Nat} {ls t : List Value} {g : mm_M} {i : Nat} {x : Int64} (h : mm_tb G μ pc = some (.lstore i, a, b, w)) (hc : mm_so ls i 2 = true) (r : mm_R) : mm_Rn G d μ pc ls (.long x :: t) g r ↔ mm_Rn G d μ (pc + 2) ((ls.set i (.long x)).set (i + 1) (.retAddr 0)) (t) (g) r :=
  mm_Rn_step (fun f => by unfold mm_stp; rw [h]; exact if_pos hc) r
theorem rn_lstore_n {G : mm_G} {d μ pc a b w : Nat} {ls t : List Value} {g : mm_M} {i : Fin 4} {x : Int64} (h : mm_tb G μ pc = some (.lstore_n i, a, b, w)) (hc : mm_so ls i 2 = true) (r : mm_R) : mm_Rn G d μ pc ls (.long x :: t) g r ↔ mm_Rn G d μ (pc + 1) ((ls.set i (.long x)).set (i + 1) (.retAddr 0)) (t) (g) r :=
  mm_Rn_step (fun f => by unfold mm_stp; rw [h]; exact if_pos hc) r
theorem rn_iinc {G : mm_G} {d μ pc a b w : Nat} {ls t : List Value} {g : mm_M} {i : Nat} {k : Int} {x : Int32} (h : mm_tb G μ pc = some (.iinc i k, a, b, w)) (hx : mm_ld ls i = .int x) (hc : mm_so ls i 1 = true) (r : mm_R) : mm_Rn G d μ pc ls (t) g r ↔ mm_Rn G d μ (pc + 3) (ls.set i (.int (x + Int32.ofInt k))) (t) (g) r :=
  mm_Rn_step (fun f => by unfold mm_stp; rw [h]; show mm_oi (mm_ld ls i) _ = _; rw [hx]; exact if_pos hc) r
theorem rn_iadd {G : mm_G} {d μ pc a b w : Nat} {ls t : List Value} {g : mm_M} {x y : Int32} (h : mm_tb G μ pc = some (.iadd, a, b, w)) (r : mm_R) : mm_Rn G d μ pc ls (.int y :: .int x :: t) g r ↔ mm_Rn G d μ (pc + 1) (ls) (.int (x + y) :: t) (g) r :=
  mm_Rn_step (fun f => by unfold mm_stp; rw [h] <;> rfl) r
theorem rn_isub {G : mm_G} {d μ pc a b w : Nat} {ls t : List Value} {g : mm_M} {x y : Int32} (h : mm_tb G μ pc = some (.isub, a, b, w)) (r : mm_R) : mm_Rn G d μ pc ls (.int y :: .int x :: t) g r ↔ mm_Rn G d μ (pc + 1) (ls) (.int (x - y) :: t) (g) r :=
  mm_Rn_step (fun f => by unfold mm_stp; rw [h] <;> rfl) r
theorem rn_imul {G : mm_G} {d μ pc a b w : Nat} {ls t : List Value} {g : mm_M} {x y : Int32} (h : mm_tb G μ pc = some (.imul, a, b, w)) (r : mm_R) : mm_Rn G d μ pc ls (.int y :: .int x :: t) g r ↔ mm_Rn G d μ (pc + 1) (ls) (.int (x * y) :: t) (g) r :=
  mm_Rn_step (fun f => by unfold mm_stp; rw [h] <;> rfl) r
theorem rn_iand {G : mm_G} {d μ pc a b w : Nat} {ls t : List Value} {g : mm_M} {x y : Int32} (h : mm_tb G μ pc = some (.iand, a, b, w)) (r : mm_R) : mm_Rn G d μ pc ls (.int y :: .int x :: t) g r ↔ mm_Rn G d μ (pc + 1) (ls) (.int (x &&& y) :: t) (g) r :=
  mm_Rn_step (fun f => by unfold mm_stp; rw [h] <;> rfl) r
theorem rn_ladd {G : mm_G} {d μ pc a b w : Nat} {ls t : List Value} {g : mm_M} {x y : Int64} (h : mm_tb G μ pc = some (.ladd, a, b, w)) (r : mm_R) : mm_Rn G d μ pc ls (.long y :: .long x :: t) g r ↔ mm_Rn G d μ (pc + 1) (ls) (.long (x + y) :: t) (g) r :=
  mm_Rn_step (fun f => by unfold mm_stp; rw [h] <;> rfl) r
theorem rn_lsub {G : mm_G} {d μ pc a b w : Nat} {ls t : List Value} {g : mm_M} {x y : Int64} (h : mm_tb G μ pc = some (.lsub, a, b, w)) (r : mm_R) : mm_Rn G d μ pc ls (.long y :: .long x :: t) g r ↔ mm_Rn G d μ (pc + 1) (ls) (.long (x - y) :: t) (g) r :=
  mm_Rn_step (fun f => by unfold mm_stp; rw [h] <;> rfl) r
theorem rn_lmul {G : mm_G} {d μ pc a b w : Nat} {ls t : List Value} {g : mm_M} {x y : Int64} (h : mm_tb G μ pc = some (.lmul, a, b, w)) (r : mm_R) : mm_Rn G d μ pc ls (.long y :: .long x :: t) g r ↔ mm_Rn G d μ (pc + 1) (ls) (.long (x * y) :: t) (g) r :=
  mm_Rn_step (fun f => by unfold mm_stp; rw [h] <;> rfl) r
theorem rn_ldiv {G : mm_G} {d μ pc a b w : Nat} {ls t : List Value} {g : mm_M} {x y : Int64} (h : mm_tb G μ pc = some (.ldiv, a, b, w)) (hc : ¬ y = 0) (r : mm_R) : mm_Rn G d μ pc ls (.long y :: .long x :: t) g r ↔ mm_Rn G d μ (pc + 1) (ls) (.long (x / y) :: t) (g) r :=
  mm_Rn_step (fun f => by unfold mm_stp; rw [h]; exact if_neg hc) r
theorem rn_lcmp {G : mm_G} {d μ pc a b w : Nat} {ls t : List Value} {g : mm_M} {x y : Int64} (h : mm_tb G μ pc = some (.lcmp, a, b, w)) (r : mm_R) : mm_Rn G d μ pc ls (.long y :: .long x :: t) g r ↔ mm_Rn G d μ (pc + 1) (ls) (.int (lg_cmp x y) :: t) (g) r :=
  mm_Rn_step (fun f => by unfold mm_stp; rw [h] <;> rfl) r
theorem rn_i2l {G : mm_G} {d μ pc a b w : Nat} {ls t : List Value} {g : mm_M} {x : Int32} (h : mm_tb G μ pc = some (.i2l, a, b, w)) (r : mm_R) : mm_Rn G d μ pc ls (.int x :: t) g r ↔ mm_Rn G d μ (pc + 1) (ls) (.long x.toInt64 :: t) (g) r :=
  mm_Rn_step (fun f => by unfold mm_stp; rw [h] <;> rfl) r
theorem rn_dup {G : mm_G} {d μ pc a b w : Nat} {ls t : List Value} {g : mm_M} {v : Value} (h : mm_tb G μ pc = some (.dup, a, b, w)) (hc : mm_c1 v = true) (r : mm_R) : mm_Rn G d μ pc ls (v :: t) g r ↔ mm_Rn G d μ (pc + 1) (ls) (v :: v :: t) (g) r :=
  mm_Rn_step (fun f => by unfold mm_stp; rw [h]; exact if_pos hc) r
theorem rn_dup2 {G : mm_G} {d μ pc a b w : Nat} {ls t : List Value} {g : mm_M} {v u : Value} (h : mm_tb G μ pc = some (.dup2, a, b, w)) (hc : mm_c1 v = true) (hc2 : mm_c1 u = true) (r : mm_R) : mm_Rn G d μ pc ls (v :: u :: t) g r ↔ mm_Rn G d μ (pc + 1) (ls) (v :: u :: v :: u :: t) (g) r :=
  mm_Rn_step (fun f => by unfold mm_stp; rw [h]; exact if_pos ⟨hc, hc2⟩) r
theorem rn_if_eq_t {G : mm_G} {d μ pc a b w : Nat} {ls t : List Value} {g : mm_M} {x : Int32} {o : Int} (h : mm_tb G μ pc = some (.ifCond .eq o, a, b, w)) (hc : x = 0) (r : mm_R) : mm_Rn G d μ pc ls (.int x :: t) g r ↔ mm_Rn G d μ (a) (ls) (t) (g) r :=
  mm_Rn_step (fun f => by unfold mm_stp; rw [h]; exact if_pos hc) r
theorem rn_if_eq_f {G : mm_G} {d μ pc a b w : Nat} {ls t : List Value} {g : mm_M} {x : Int32} {o : Int} (h : mm_tb G μ pc = some (.ifCond .eq o, a, b, w)) (hc : ¬ (x = 0)) (r : mm_R) : mm_Rn G d μ pc ls (.int x :: t) g r ↔ mm_Rn G d μ (pc + 3) (ls) (t) (g) r :=
  mm_Rn_step (fun f => by unfold mm_stp; rw [h]; exact if_neg hc) r
theorem rn_if_ne_t {G : mm_G} {d μ pc a b w : Nat} {ls t : List Value} {g : mm_M} {x : Int32} {o : Int} (h : mm_tb G μ pc = some (.ifCond .ne o, a, b, w)) (hc : ¬ x = 0) (r : mm_R) : mm_Rn G d μ pc ls (.int x :: t) g r ↔ mm_Rn G d μ (a) (ls) (t) (g) r :=
  mm_Rn_step (fun f => by unfold mm_stp; rw [h]; exact if_pos hc) r
theorem rn_if_ne_f {G : mm_G} {d μ pc a b w : Nat} {ls t : List Value} {g : mm_M} {x : Int32} {o : Int} (h : mm_tb G μ pc = some (.ifCond .ne o, a, b, w)) (hc : ¬ (¬ x = 0)) (r : mm_R) : mm_Rn G d μ pc ls (.int x :: t) g r ↔ mm_Rn G d μ (pc + 3) (ls) (t) (g) r :=
  mm_Rn_step (fun f => by unfold mm_stp; rw [h]; exact if_neg hc) r
theorem rn_if_lt_t {G : mm_G} {d μ pc a b w : Nat} {ls t : List Value} {g : mm_M} {x : Int32} {o : Int} (h : mm_tb G μ pc = some (.ifCond .lt o, a, b, w)) (hc : x < 0) (r : mm_R) : mm_Rn G d μ pc ls (.int x :: t) g r ↔ mm_Rn G d μ (a) (ls) (t) (g) r :=
  mm_Rn_step (fun f => by unfold mm_stp; rw [h]; exact if_pos hc) r
theorem rn_if_lt_f {G : mm_G} {d μ pc a b w : Nat} {ls t : List Value} {g : mm_M} {x : Int32} {o : Int} (h : mm_tb G μ pc = some (.ifCond .lt o, a, b, w)) (hc : ¬ (x < 0)) (r : mm_R) : mm_Rn G d μ pc ls (.int x :: t) g r ↔ mm_Rn G d μ (pc + 3) (ls) (t) (g) r :=
  mm_Rn_step (fun f => by unfold mm_stp; rw [h]; exact if_neg hc) r
theorem rn_if_ge_t {G : mm_G} {d μ pc a b w : Nat} {ls t : List Value} {g : mm_M} {x : Int32} {o : Int} (h : mm_tb G μ pc = some (.ifCond .ge o, a, b, w)) (hc : 0 ≤ x) (r : mm_R) : mm_Rn G d μ pc ls (.int x :: t) g r ↔ mm_Rn G d μ (a) (ls) (t) (g) r :=
  mm_Rn_step (fun f => by unfold mm_stp; rw [h]; exact if_pos hc) r
theorem rn_if_ge_f {G : mm_G} {d μ pc a b w : Nat} {ls t : List Value} {g : mm_M} {x : Int32} {o : Int} (h : mm_tb G μ pc = some (.ifCond .ge o, a, b, w)) (hc : ¬ (0 ≤ x)) (r : mm_R) : mm_Rn G d μ pc ls (.int x :: t) g r ↔ mm_Rn G d μ (pc + 3) (ls) (t) (g) r :=
  mm_Rn_step (fun f => by unfold mm_stp; rw [h]; exact if_neg hc) r
theorem rn_if_gt_t {G : mm_G} {d μ pc a b w : Nat} {ls t : List Value} {g : mm_M} {x : Int32} {o : Int} (h : mm_tb G μ pc = some (.ifCond .gt o, a, b, w)) (hc : 0 < x) (r : mm_R) : mm_Rn G d μ pc ls (.int x :: t) g r ↔ mm_Rn G d μ (a) (ls) (t) (g) r :=
  mm_Rn_step (fun f => by unfold mm_stp; rw [h]; exact if_pos hc) r
theorem rn_if_gt_f {G : mm_G} {d μ pc a b w : Nat} {ls t : List Value} {g : mm_M} {x : Int32} {o : Int} (h : mm_tb G μ pc = some (.ifCond .gt o, a, b, w)) (hc : ¬ (0 < x)) (r : mm_R) : mm_Rn G d μ pc ls (.int x :: t) g r ↔ mm_Rn G d μ (pc + 3) (ls) (t) (g) r :=
  mm_Rn_step (fun f => by unfold mm_stp; rw [h]; exact if_neg hc) r
theorem rn_if_le_t {G : mm_G} {d μ pc a b w : Nat} {ls t : List Value} {g : mm_M} {x : Int32} {o : Int} (h : mm_tb G μ pc = some (.ifCond .le o, a, b, w)) (hc : x ≤ 0) (r : mm_R) : mm_Rn G d μ pc ls (.int x :: t) g r ↔ mm_Rn G d μ (a) (ls) (t) (g) r :=
  mm_Rn_step (fun f => by unfold mm_stp; rw [h]; exact if_pos hc) r
theorem rn_if_le_f {G : mm_G} {d μ pc a b w : Nat} {ls t : List Value} {g : mm_M} {x : Int32} {o : Int} (h : mm_tb G μ pc = some (.ifCond .le o, a, b, w)) (hc : ¬ (x ≤ 0)) (r : mm_R) : mm_Rn G d μ pc ls (.int x :: t) g r ↔ mm_Rn G d μ (pc + 3) (ls) (t) (g) r :=
  mm_Rn_step (fun f => by unfold mm_stp; rw [h]; exact if_neg hc) r
theorem rn_icmp_eq_t {G : mm_G} {d μ pc a b w : Nat} {ls t : List Value} {g : mm_M} {x y : Int32} {o : Int} (h : mm_tb G μ pc = some (.if_icmp .eq o, a, b, w)) (hc : x = y) (r : mm_R) : mm_Rn G d μ pc ls (.int y :: .int x :: t) g r ↔ mm_Rn G d μ (a) (ls) (t) (g) r :=
  mm_Rn_step (fun f => by unfold mm_stp; rw [h]; exact if_pos hc) r
theorem rn_icmp_eq_f {G : mm_G} {d μ pc a b w : Nat} {ls t : List Value} {g : mm_M} {x y : Int32} {o : Int} (h : mm_tb G μ pc = some (.if_icmp .eq o, a, b, w)) (hc : ¬ (x = y)) (r : mm_R) : mm_Rn G d μ pc ls (.int y :: .int x :: t) g r ↔ mm_Rn G d μ (pc + 3) (ls) (t) (g) r :=
  mm_Rn_step (fun f => by unfold mm_stp; rw [h]; exact if_neg hc) r
theorem rn_icmp_ne_t {G : mm_G} {d μ pc a b w : Nat} {ls t : List Value} {g : mm_M} {x y : Int32} {o : Int} (h : mm_tb G μ pc = some (.if_icmp .ne o, a, b, w)) (hc : ¬ x = y) (r : mm_R) : mm_Rn G d μ pc ls (.int y :: .int x :: t) g r ↔ mm_Rn G d μ (a) (ls) (t) (g) r :=
  mm_Rn_step (fun f => by unfold mm_stp; rw [h]; exact if_pos hc) r
theorem rn_icmp_ne_f {G : mm_G} {d μ pc a b w : Nat} {ls t : List Value} {g : mm_M} {x y : Int32} {o : Int} (h : mm_tb G μ pc = some (.if_icmp .ne o, a, b, w)) (hc : ¬ (¬ x = y)) (r : mm_R) : mm_Rn G d μ pc ls (.int y :: .int x :: t) g r ↔ mm_Rn G d μ (pc + 3) (ls) (t) (g) r :=
  mm_Rn_step (fun f => by unfold mm_stp; rw [h]; exact if_neg hc) r
theorem rn_icmp_lt_t {G : mm_G} {d μ pc a b w : Nat} {ls t : List Value} {g : mm_M} {x y : Int32} {o : Int} (h : mm_tb G μ pc = some (.if_icmp .lt o, a, b, w)) (hc : x < y) (r : mm_R) : mm_Rn G d μ pc ls (.int y :: .int x :: t) g r ↔ mm_Rn G d μ (a) (ls) (t) (g) r :=
  mm_Rn_step (fun f => by unfold mm_stp; rw [h]; exact if_pos hc) r
theorem rn_icmp_lt_f {G : mm_G} {d μ pc a b w : Nat} {ls t : List Value} {g : mm_M} {x y : Int32} {o : Int} (h : mm_tb G μ pc = some (.if_icmp .lt o, a, b, w)) (hc : ¬ (x < y)) (r : mm_R) : mm_Rn G d μ pc ls (.int y :: .int x :: t) g r ↔ mm_Rn G d μ (pc + 3) (ls) (t) (g) r :=
  mm_Rn_step (fun f => by unfold mm_stp; rw [h]; exact if_neg hc) r
theorem rn_icmp_ge_t {G : mm_G} {d μ pc a b w : Nat} {ls t : List Value} {g : mm_M} {x y : Int32} {o : Int} (h : mm_tb G μ pc = some (.if_icmp .ge o, a, b, w)) (hc : y ≤ x) (r : mm_R) : mm_Rn G d μ pc ls (.int y :: .int x :: t) g r ↔ mm_Rn G d μ (a) (ls) (t) (g) r :=
  mm_Rn_step (fun f => by unfold mm_stp; rw [h]; exact if_pos hc) r
theorem rn_icmp_ge_f {G : mm_G} {d μ pc a b w : Nat} {ls t : List Value} {g : mm_M} {x y : Int32} {o : Int} (h : mm_tb G μ pc = some (.if_icmp .ge o, a, b, w)) (hc : ¬ (y ≤ x)) (r : mm_R) : mm_Rn G d μ pc ls (.int y :: .int x :: t) g r ↔ mm_Rn G d μ (pc + 3) (ls) (t) (g) r :=
  mm_Rn_step (fun f => by unfold mm_stp; rw [h]; exact if_neg hc) r
theorem rn_icmp_gt_t {G : mm_G} {d μ pc a b w : Nat} {ls t : List Value} {g : mm_M} {x y : Int32} {o : Int} (h : mm_tb G μ pc = some (.if_icmp .gt o, a, b, w)) (hc : y < x) (r : mm_R) : mm_Rn G d μ pc ls (.int y :: .int x :: t) g r ↔ mm_Rn G d μ (a) (ls) (t) (g) r :=
  mm_Rn_step (fun f => by unfold mm_stp; rw [h]; exact if_pos hc) r
theorem rn_icmp_gt_f {G : mm_G} {d μ pc a b w : Nat} {ls t : List Value} {g : mm_M} {x y : Int32} {o : Int} (h : mm_tb G μ pc = some (.if_icmp .gt o, a, b, w)) (hc : ¬ (y < x)) (r : mm_R) : mm_Rn G d μ pc ls (.int y :: .int x :: t) g r ↔ mm_Rn G d μ (pc + 3) (ls) (t) (g) r :=
  mm_Rn_step (fun f => by unfold mm_stp; rw [h]; exact if_neg hc) r
theorem rn_icmp_le_t {G : mm_G} {d μ pc a b w : Nat} {ls t : List Value} {g : mm_M} {x y : Int32} {o : Int} (h : mm_tb G μ pc = some (.if_icmp .le o, a, b, w)) (hc : x ≤ y) (r : mm_R) : mm_Rn G d μ pc ls (.int y :: .int x :: t) g r ↔ mm_Rn G d μ (a) (ls) (t) (g) r :=
  mm_Rn_step (fun f => by unfold mm_stp; rw [h]; exact if_pos hc) r
theorem rn_icmp_le_f {G : mm_G} {d μ pc a b w : Nat} {ls t : List Value} {g : mm_M} {x y : Int32} {o : Int} (h : mm_tb G μ pc = some (.if_icmp .le o, a, b, w)) (hc : ¬ (x ≤ y)) (r : mm_R) : mm_Rn G d μ pc ls (.int y :: .int x :: t) g r ↔ mm_Rn G d μ (pc + 3) (ls) (t) (g) r :=
  mm_Rn_step (fun f => by unfold mm_stp; rw [h]; exact if_neg hc) r
theorem rn_goto {G : mm_G} {d μ pc a b w : Nat} {ls t : List Value} {g : mm_M} {o : Int} (h : mm_tb G μ pc = some (.goto o, a, b, w)) (r : mm_R) : mm_Rn G d μ pc ls (t) g r ↔ mm_Rn G d μ (a) (ls) (t) (g) r :=
  mm_Rn_step (fun f => by unfold mm_stp; rw [h] <;> rfl) r
theorem rn_ts {G : mm_G} {d μ pc a b w : Nat} {ls t : List Value} {g : mm_M} {x : Int32} {df lo hi off : Int} {offs : Array Int} {tg : Nat} (h : mm_tb G μ pc = some (.tableswitch df lo hi offs, a, b, w)) (ho : (if x.toInt < lo ∨ hi < x.toInt then some df else offs[(x.toInt - lo).toNat]?) = some off) (ht : (pc : Int) + off = (tg : Int)) (r : mm_R) : mm_Rn G d μ pc ls (.int x :: t) g r ↔ mm_Rn G d μ (tg) (ls) (t) (g) r :=
  mm_Rn_step (fun f => by unfold mm_stp; rw [h]; refine (show mm_go (if x.toInt < lo ∨ hi < x.toInt then some df else offs[(x.toInt - lo).toNat]?) pc (fun tt => f d μ tt ls t g) = _ from ?_); rw [ho]; refine (if_pos (by omega)).trans ?_; rw [ht]; rfl) r
theorem rn_getfield {G : mm_G} {d μ pc a b w : Nat} {ls t : List Value} {g : mm_M} {i x : Nat} (h : mm_tb G μ pc = some (.getfield i, a, b, w)) (hT : g.1 x = some (a, mm_sl G a)) (r : mm_R) : mm_Rn G d μ pc ls (.ref x :: t) g r ↔ mm_Rn G d μ (pc + 3) (ls) (g.2.1 x b :: t) (g) r :=
  mm_Rn_step (fun f => by unfold mm_stp; rw [h]; exact if_pos hT) r
theorem rn_putfield {G : mm_G} {d μ pc a b w : Nat} {ls t : List Value} {g : mm_M} {i x : Nat} {v : Value} (h : mm_tb G μ pc = some (.putfield i, a, b, w)) (hT : g.1 x = some (a, mm_sl G a)) (hf : fits (mm_ft G a b) v = true) (r : mm_R) : mm_Rn G d μ pc ls (v :: .ref x :: t) g r ↔ mm_Rn G d μ (pc + 3) (ls) (t) (mm_wr g x b v) r :=
  mm_Rn_step (fun f => by unfold mm_stp; rw [h]; exact if_pos ⟨hT, hf⟩) r
theorem rn_iaload {G : mm_G} {d μ pc a b w : Nat} {ls t : List Value} {g : mm_M} {x : Nat} {j : Int32} (h : mm_tb G μ pc = some (.iaload, a, b, w)) (hc : mm_in (g.1 x) 100 101 j = true) (r : mm_R) : mm_Rn G d μ pc ls (.int j :: .ref x :: t) g r ↔ mm_Rn G d μ (pc + 1) (ls) (g.2.1 x j.toNatClampNeg :: t) (g) r :=
  mm_Rn_step (fun f => by unfold mm_stp; rw [h]; exact if_pos hc) r
theorem rn_aaload {G : mm_G} {d μ pc a b w : Nat} {ls t : List Value} {g : mm_M} {x : Nat} {j : Int32} (h : mm_tb G μ pc = some (.aaload, a, b, w)) (hc : mm_in (g.1 x) 102 103 j = true) (r : mm_R) : mm_Rn G d μ pc ls (.int j :: .ref x :: t) g r ↔ mm_Rn G d μ (pc + 1) (ls) (g.2.1 x j.toNatClampNeg :: t) (g) r :=
  mm_Rn_step (fun f => by unfold mm_stp; rw [h]; exact if_pos hc) r
theorem rn_iastore {G : mm_G} {d μ pc a b w : Nat} {ls t : List Value} {g : mm_M} {x : Nat} {j v : Int32} (h : mm_tb G μ pc = some (.iastore, a, b, w)) (hc : mm_in (g.1 x) 100 100 j = true) (r : mm_R) : mm_Rn G d μ pc ls (.int v :: .int j :: .ref x :: t) g r ↔ mm_Rn G d μ (pc + 1) (ls) (t) (mm_wr g x j.toNatClampNeg (.int v)) r :=
  mm_Rn_step (fun f => by unfold mm_stp; rw [h]; exact if_pos hc) r
theorem rn_aastore {G : mm_G} {d μ pc a b w : Nat} {ls t : List Value} {g : mm_M} {x v : Nat} {j : Int32} (h : mm_tb G μ pc = some (.aastore, a, b, w)) (hc : mm_in (g.1 x) a a j = true) (hv : g.1 v = some (b, mm_sl G b)) (r : mm_R) : mm_Rn G d μ pc ls (.ref v :: .int j :: .ref x :: t) g r ↔ mm_Rn G d μ (pc + 1) (ls) (t) (mm_wr g x j.toNatClampNeg (.ref v)) r :=
  mm_Rn_step (fun f => by unfold mm_stp; rw [h]; exact if_pos ⟨hc, hv⟩) r
theorem rn_alen {G : mm_G} {d μ pc a b w : Nat} {ls t : List Value} {g : mm_M} {x kd len : Nat} (h : mm_tb G μ pc = some (.arraylength, a, b, w)) (hT : g.1 x = some (kd, len)) (h1 : 100 ≤ kd) (h2 : kd ≤ 103) (r : mm_R) : mm_Rn G d μ pc ls (.ref x :: t) g r ↔ mm_Rn G d μ (pc + 1) (ls) (.int (Int32.ofNat len) :: t) (g) r :=
  mm_Rn_step (fun f => by unfold mm_stp; rw [h]; show mm_ln (g.1 x) _ = _; rw [hT]; exact if_pos ⟨h1, h2⟩) r
theorem rn_new {G : mm_G} {d μ pc a b w : Nat} {ls t : List Value} {g : mm_M} {i x : Nat} (h : mm_tb G μ pc = some (.new i, a, b, w)) (hx : mm_pk G μ pc ls g.2.1 = x) (hT : g.1 x = none) (r : mm_R) : mm_Rn G d μ pc ls (t) g r ↔ mm_Rn G d μ (pc + 3) (ls) (.ref x :: t) (mm_al g x a (mm_sl G a) fun k => defaultValue (mm_ft G a k)) r :=
  mm_Rn_step (fun f => by unfold mm_stp; rw [h]; subst hx; exact if_pos hT) r
theorem rn_newarray {G : mm_G} {d μ pc a b w : Nat} {ls t : List Value} {g : mm_M} {ty : ArrayType} {x : Nat} {n : Int32} (h : mm_tb G μ pc = some (.newarray ty, a, b, w)) (hx : mm_pk G μ pc ls g.2.1 = x) (hT : g.1 x = none) (h0 : 0 ≤ n) (h1 : n.toNatClampNeg ≤ 1000) (r : mm_R) : mm_Rn G d μ pc ls (.int n :: t) g r ↔ mm_Rn G d μ (pc + 2) (ls) (.ref x :: t) (mm_al g x 100 n.toNatClampNeg fun _ => .int 0) r :=
  mm_Rn_step (fun f => by unfold mm_stp; rw [h]; subst hx; exact if_pos ⟨hT, h0, h1⟩) r
theorem rn_anewarray {G : mm_G} {d μ pc a b w : Nat} {ls t : List Value} {g : mm_M} {i x : Nat} {n : Int32} (h : mm_tb G μ pc = some (.anewarray i, a, b, w)) (hx : mm_pk G μ pc ls g.2.1 = x) (hT : g.1 x = none) (h0 : 0 ≤ n) (h1 : n.toNatClampNeg ≤ 1000) (r : mm_R) : mm_Rn G d μ pc ls (.int n :: t) g r ↔ mm_Rn G d μ (pc + 3) (ls) (.ref x :: t) (mm_al g x a n.toNatClampNeg fun _ => .null) r :=
  mm_Rn_step (fun f => by unfold mm_stp; rw [h]; subst hx; exact if_pos ⟨hT, h0, h1⟩) r
theorem rn_max {G : mm_G} {d μ pc b w i : Nat} {ls t : List Value} {g : mm_M} {x y : Int32} (h : mm_tb G μ pc = some (.invokestatic i, 999, b, w)) (hl : t.length ≤ 4) (r : mm_R) : mm_Rn G (d + 1) μ pc ls (.int y :: .int x :: t) g r ↔ mm_Rn G (d + 1) μ (pc + 3) ls (.int (if x < y then y else x) :: t) g r :=
  mm_Rn_step (fun f => by unfold mm_stp; rw [h]; exact (if_pos rfl).trans ((if_neg (by omega)).trans (if_pos hl))) r
theorem rn_oinit {G : mm_G} {d μ pc b w i x : Nat} {ls t : List Value} {g : mm_M} (h : mm_tb G μ pc = some (.invokespecial i, 998, b, w)) (hl : t.length ≤ 4) (r : mm_R) : mm_Rn G (d + 1) μ pc ls (.ref x :: t) g r ↔ mm_Rn G (d + 1) μ (pc + 3) ls t g r :=
  mm_Rn_step (fun f => by unfold mm_stp; rw [h]; exact (if_pos rfl).trans ((if_neg (by omega)).trans (if_pos hl))) r
theorem rn_stat {G : mm_G} {d μ pc a n w i : Nat} {ls st : List Value} {g : mm_M} {q : mm_R} (h : mm_tb G μ pc = some (.invokestatic i, a, n, w)) (ha : a ≠ 999) (hc : n ≤ st.length ∧ (st.drop n).length ≤ 4 ∧ (st.take n).all mm_ar = true)
    (hq : mm_Rn G d a 0 ((st.take n).reverse ++ List.replicate (mm_mx G a - n) (.retAddr 0)) [] (g.1, g.2.1, 0, 0) q) (r : mm_R) : mm_Rn G (d + 1) μ pc ls st g r ↔ mm_Rn G (d + 1) μ (pc + 3) ls (q.1.toList ++ st.drop n) (q.2.1, q.2.2.1, g.2.2.1 + q.2.2.2.1, g.2.2.2 + q.2.2.2.2) r :=
  mm_Rn_call (fun f => by unfold mm_stp; rw [h]; exact if_neg ha) hc hq
theorem rn_virt {G : mm_G} {d μ pc a n w i : Nat} {ls st : List Value} {g : mm_M} {q : mm_R} (h : mm_tb G μ pc = some (.invokevirtual i, a, n, w)) (hv : mm_rv G a n st g.1 = true) (hc : n ≤ st.length ∧ (st.drop n).length ≤ 4 ∧ (st.take n).all mm_ar = true)
    (hq : mm_Rn G d a 0 ((st.take n).reverse ++ List.replicate (mm_mx G a - n) (.retAddr 0)) [] (g.1, g.2.1, 0, 0) q) (r : mm_R) : mm_Rn G (d + 1) μ pc ls st g r ↔ mm_Rn G (d + 1) μ (pc + 3) ls (q.1.toList ++ st.drop n) (q.2.1, q.2.2.1, g.2.2.1 + q.2.2.2.1, g.2.2.2 + q.2.2.2.2) r :=
  mm_Rn_call (fun f => by unfold mm_stp; rw [h]; exact if_pos hv) hc hq
theorem rn_spec {G : mm_G} {d μ pc a n w i : Nat} {ls st : List Value} {g : mm_M} {q : mm_R} (h : mm_tb G μ pc = some (.invokespecial i, a, n, w)) (ha : a ≠ 998) (hf : mm_rf n st = true) (hc : n ≤ st.length ∧ (st.drop n).length ≤ 4 ∧ (st.take n).all mm_ar = true)
    (hq : mm_Rn G d a 0 ((st.take n).reverse ++ List.replicate (mm_mx G a - n) (.retAddr 0)) [] (g.1, g.2.1, 0, 0) q) (r : mm_R) : mm_Rn G (d + 1) μ pc ls st g r ↔ mm_Rn G (d + 1) μ (pc + 3) ls (q.1.toList ++ st.drop n) (q.2.1, q.2.2.1, g.2.2.1 + q.2.2.2.1, g.2.2.2 + q.2.2.2.2) r :=
  mm_Rn_call (fun f => by unfold mm_stp; rw [h]; exact (if_neg ha).trans (if_pos hf)) hc hq
theorem rn_ireturn {G : mm_G} {d μ pc a b w : Nat} {ls : List Value} {g : mm_M} {x : Int32} (h : mm_tb G μ pc = some (.ireturn, a, b, w)) (hb : mm_rb G μ = 1 ∨ mm_rb G μ = 2 ∧ (x = 0 ∨ x = 1)) : mm_Rn G d μ pc ls [.int x] g (some (.int x), g) :=
  mm_Rn_ret (fun f => by unfold mm_stp; rw [h]; exact if_pos ⟨rfl, hb⟩)
theorem rn_return {G : mm_G} {d μ pc a b w : Nat} {ls : List Value} {g : mm_M} (h : mm_tb G μ pc = some (.return_, a, b, w)) (hb : mm_rb G μ = 0) : mm_Rn G d μ pc ls [] g (none, g) :=
  mm_Rn_ret (fun f => by unfold mm_stp; rw [h]; exact if_pos ⟨rfl, hb⟩)
theorem rn_if_eq {G : mm_G} {d μ pc a b w : Nat} {ls t : List Value} {g : mm_M} {x : Int32} {o : Int} (h : mm_tb G μ pc = some (.ifCond .eq o, a, b, w)) (r : mm_R) : mm_Rn G d μ pc ls (.int x :: t) g r ↔ if x = 0 then mm_Rn G d μ (a) ls t g r else mm_Rn G d μ (pc + 3) ls t g r := by
  by_cases hc : x = 0
  · rw [if_pos hc]; exact rn_if_eq_t h hc r
  · rw [if_neg hc]; exact rn_if_eq_f h hc r
theorem rn_if_ne {G : mm_G} {d μ pc a b w : Nat} {ls t : List Value} {g : mm_M} {x : Int32} {o : Int} (h : mm_tb G μ pc = some (.ifCond .ne o, a, b, w)) (r : mm_R) : mm_Rn G d μ pc ls (.int x :: t) g r ↔ if x = 0 then mm_Rn G d μ (pc + 3) ls t g r else mm_Rn G d μ (a) ls t g r := by
  by_cases hc : x = 0
  · rw [if_pos hc]; exact rn_if_ne_f h (fun z => z hc) r
  · rw [if_neg hc]; exact rn_if_ne_t h hc r
theorem rn_if_lt {G : mm_G} {d μ pc a b w : Nat} {ls t : List Value} {g : mm_M} {x : Int32} {o : Int} (h : mm_tb G μ pc = some (.ifCond .lt o, a, b, w)) (r : mm_R) : mm_Rn G d μ pc ls (.int x :: t) g r ↔ if x < 0 then mm_Rn G d μ (a) ls t g r else mm_Rn G d μ (pc + 3) ls t g r := by
  by_cases hc : x < 0
  · rw [if_pos hc]; exact rn_if_lt_t h hc r
  · rw [if_neg hc]; exact rn_if_lt_f h hc r
theorem rn_if_ge {G : mm_G} {d μ pc a b w : Nat} {ls t : List Value} {g : mm_M} {x : Int32} {o : Int} (h : mm_tb G μ pc = some (.ifCond .ge o, a, b, w)) (r : mm_R) : mm_Rn G d μ pc ls (.int x :: t) g r ↔ if 0 ≤ x then mm_Rn G d μ (a) ls t g r else mm_Rn G d μ (pc + 3) ls t g r := by
  by_cases hc : 0 ≤ x
  · rw [if_pos hc]; exact rn_if_ge_t h hc r
  · rw [if_neg hc]; exact rn_if_ge_f h hc r
theorem rn_if_gt {G : mm_G} {d μ pc a b w : Nat} {ls t : List Value} {g : mm_M} {x : Int32} {o : Int} (h : mm_tb G μ pc = some (.ifCond .gt o, a, b, w)) (r : mm_R) : mm_Rn G d μ pc ls (.int x :: t) g r ↔ if 0 < x then mm_Rn G d μ (a) ls t g r else mm_Rn G d μ (pc + 3) ls t g r := by
  by_cases hc : 0 < x
  · rw [if_pos hc]; exact rn_if_gt_t h hc r
  · rw [if_neg hc]; exact rn_if_gt_f h hc r
theorem rn_if_le {G : mm_G} {d μ pc a b w : Nat} {ls t : List Value} {g : mm_M} {x : Int32} {o : Int} (h : mm_tb G μ pc = some (.ifCond .le o, a, b, w)) (r : mm_R) : mm_Rn G d μ pc ls (.int x :: t) g r ↔ if x ≤ 0 then mm_Rn G d μ (a) ls t g r else mm_Rn G d μ (pc + 3) ls t g r := by
  by_cases hc : x ≤ 0
  · rw [if_pos hc]; exact rn_if_le_t h hc r
  · rw [if_neg hc]; exact rn_if_le_f h hc r
theorem rn_icmp_eq {G : mm_G} {d μ pc a b w : Nat} {ls t : List Value} {g : mm_M} {x y : Int32} {o : Int} (h : mm_tb G μ pc = some (.if_icmp .eq o, a, b, w)) (r : mm_R) : mm_Rn G d μ pc ls (.int y :: .int x :: t) g r ↔ if x = y then mm_Rn G d μ (a) ls t g r else mm_Rn G d μ (pc + 3) ls t g r := by
  by_cases hc : x = y
  · rw [if_pos hc]; exact rn_icmp_eq_t h hc r
  · rw [if_neg hc]; exact rn_icmp_eq_f h hc r
theorem rn_icmp_ne {G : mm_G} {d μ pc a b w : Nat} {ls t : List Value} {g : mm_M} {x y : Int32} {o : Int} (h : mm_tb G μ pc = some (.if_icmp .ne o, a, b, w)) (r : mm_R) : mm_Rn G d μ pc ls (.int y :: .int x :: t) g r ↔ if x = y then mm_Rn G d μ (pc + 3) ls t g r else mm_Rn G d μ (a) ls t g r := by
  by_cases hc : x = y
  · rw [if_pos hc]; exact rn_icmp_ne_f h (fun z => z hc) r
  · rw [if_neg hc]; exact rn_icmp_ne_t h hc r
theorem rn_icmp_lt {G : mm_G} {d μ pc a b w : Nat} {ls t : List Value} {g : mm_M} {x y : Int32} {o : Int} (h : mm_tb G μ pc = some (.if_icmp .lt o, a, b, w)) (r : mm_R) : mm_Rn G d μ pc ls (.int y :: .int x :: t) g r ↔ if x < y then mm_Rn G d μ (a) ls t g r else mm_Rn G d μ (pc + 3) ls t g r := by
  by_cases hc : x < y
  · rw [if_pos hc]; exact rn_icmp_lt_t h hc r
  · rw [if_neg hc]; exact rn_icmp_lt_f h hc r
theorem rn_icmp_ge {G : mm_G} {d μ pc a b w : Nat} {ls t : List Value} {g : mm_M} {x y : Int32} {o : Int} (h : mm_tb G μ pc = some (.if_icmp .ge o, a, b, w)) (r : mm_R) : mm_Rn G d μ pc ls (.int y :: .int x :: t) g r ↔ if y ≤ x then mm_Rn G d μ (a) ls t g r else mm_Rn G d μ (pc + 3) ls t g r := by
  by_cases hc : y ≤ x
  · rw [if_pos hc]; exact rn_icmp_ge_t h hc r
  · rw [if_neg hc]; exact rn_icmp_ge_f h hc r
theorem rn_icmp_gt {G : mm_G} {d μ pc a b w : Nat} {ls t : List Value} {g : mm_M} {x y : Int32} {o : Int} (h : mm_tb G μ pc = some (.if_icmp .gt o, a, b, w)) (r : mm_R) : mm_Rn G d μ pc ls (.int y :: .int x :: t) g r ↔ if y < x then mm_Rn G d μ (a) ls t g r else mm_Rn G d μ (pc + 3) ls t g r := by
  by_cases hc : y < x
  · rw [if_pos hc]; exact rn_icmp_gt_t h hc r
  · rw [if_neg hc]; exact rn_icmp_gt_f h hc r
theorem rn_icmp_le {G : mm_G} {d μ pc a b w : Nat} {ls t : List Value} {g : mm_M} {x y : Int32} {o : Int} (h : mm_tb G μ pc = some (.if_icmp .le o, a, b, w)) (r : mm_R) : mm_Rn G d μ pc ls (.int y :: .int x :: t) g r ↔ if x ≤ y then mm_Rn G d μ (a) ls t g r else mm_Rn G d μ (pc + 3) ls t g r := by
  by_cases hc : x ≤ y
  · rw [if_pos hc]; exact rn_icmp_le_t h hc r
  · rw [if_neg hc]; exact rn_icmp_le_f h hc r
theorem rn_ireturn_iff {G : mm_G} {d μ pc a b w : Nat} {ls : List Value} {g : mm_M} {x : Int32} (h : mm_tb G μ pc = some (.ireturn, a, b, w)) (hb : mm_rb G μ = 1 ∨ mm_rb G μ = 2 ∧ (x = 0 ∨ x = 1)) (r : mm_R) : mm_Rn G d μ pc ls [.int x] g r ↔ r = (some (.int x), g) :=
  ⟨fun hr => mm_det hr (rn_ireturn h hb), fun e => e ▸ rn_ireturn h hb⟩
theorem rn_return_iff {G : mm_G} {d μ pc a b w : Nat} {ls : List Value} {g : mm_M} (h : mm_tb G μ pc = some (.return_, a, b, w)) (hb : mm_rb G μ = 0) (r : mm_R) : mm_Rn G d μ pc ls [] g r ↔ r = (none, g) :=
  ⟨fun hr => mm_det hr (rn_return h hb), fun e => e ▸ rn_return h hb⟩
theorem mm_so_of {ls : List Value} {i n : Nat} {v : Value} (h1 : i + n ≤ ls.length) (h2 : mm_ld ls (i - 1) = v) (hv : mm_c1 v = true) : mm_so ls i n = true := by
  unfold mm_so
  rw [h2, decide_eq_true h1, show decide (v.category = 1) = true from hv, Bool.or_true, Bool.and_true]
end
section
/-! ints by their numbers -/
abbrev io_v (a : Int) : Value := .int (Int32.ofInt a)
abbrev io_R (a : Int) : Prop := -2147483648 ≤ a ∧ a < 2147483648
theorem io_toInt {a : Int} (h : io_R a) : (Int32.ofInt a).toInt = a := Int32.toInt_ofInt_of_le (by simpa using h.1) (by simpa using h.2)
theorem io_add (a b : Int) : Int32.ofInt a + Int32.ofInt b = Int32.ofInt (a + b) := (Int32.ofInt_add a b).symm
theorem io_sub (a b : Int) : Int32.ofInt a - Int32.ofInt b = Int32.ofInt (a - b) := (Int32.ofInt_sub a b).symm
theorem io_mul (a b : Int) : Int32.ofInt a * Int32.ofInt b = Int32.ofInt (a * b) := (Int32.ofInt_mul a b).symm
theorem io_lt {a b : Int} (ha : io_R a) (hb : io_R b) : (Int32.ofInt a < Int32.ofInt b) = (a < b) := by
  rw [Int32.lt_iff_toInt_lt, io_toInt ha, io_toInt hb]
theorem io_le {a b : Int} (ha : io_R a) (hb : io_R b) : (Int32.ofInt a ≤ Int32.ofInt b) = (a ≤ b) := by
  rw [Int32.le_iff_toInt_le, io_toInt ha, io_toInt hb]
theorem io_eq {a b : Int} (ha : io_R a) (hb : io_R b) : (Int32.ofInt a = Int32.ofInt b) = (a = b) := by
  rw [← Int32.toInt_inj, io_toInt ha, io_toInt hb]
theorem io_zero : (0 : Int32) = Int32.ofInt 0 := by decide
theorem io_one : (1 : Int32) = Int32.ofInt 1 := by decide
theorem io_lt0 {a : Int} (ha : io_R a) : (Int32.ofInt a < 0) = (a < 0) := by rw [io_zero, io_lt ha (by decide)]
theorem io_le0 {a : Int} (ha : io_R a) : (Int32.ofInt a ≤ 0) = (a ≤ 0) := by rw [io_zero, io_le ha (by decide)]
theorem io_0lt {a : Int} (ha : io_R a) : (0 < Int32.ofInt a) = (0 < a) := by rw [io_zero, io_lt (by decide) ha]
theorem io_0le {a : Int} (ha : io_R a) : (0 ≤ Int32.ofInt a) = (0 ≤ a) := by rw [io_zero, io_le (by decide) ha]
theorem io_eq0 {a : Int} (ha : io_R a) : (Int32.ofInt a = 0) = (a = 0) := by rw [io_zero, io_eq ha (by decide)]
theorem io_nat {a : Int} (ha : io_R a) : (Int32.ofInt a).toNatClampNeg = a.toNat := by
  show (Int32.ofInt a).toInt.toNat = a.toNat
  rw [io_toInt ha]
theorem io_of (x : Int32) : Int32.ofInt x.toInt = x := Int32.ofInt_toInt x
theorem io_rng (x : Int32) : io_R x.toInt := ⟨by have := x.le_toInt; simpa using this, by have := x.toInt_lt; simpa using this⟩
theorem io_max (a b : Int) (ha : io_R a) (hb : io_R b) : (if Int32.ofInt a < Int32.ofInt b then Int32.ofInt b else Int32.ofInt a) = Int32.ofInt (max a b) := by
  rw [io_lt ha hb]
  by_cases h : a < b
  · rw [if_pos h, Int.max_eq_right (by omega)]
  · rw [if_neg h, Int.max_eq_left (by omega)]
abbrev jo_R (a : Int) : Prop := -9223372036854775808 ≤ a ∧ a < 9223372036854775808
theorem jo_toInt {a : Int} (h : jo_R a) : (Int64.ofInt a).toInt = a := Int64.toInt_ofInt_of_le (by simpa using h.1) (by simpa using h.2)
theorem jo_i2l {a : Int} (ha : io_R a) : (Int32.ofInt a).toInt64 = Int64.ofInt a := by
  rw [← Int64.toInt_inj, Int32.toInt_toInt64, io_toInt ha, jo_toInt (by omega)]
theorem jo_add (a b : Int) : Int64.ofInt a + Int64.ofInt b = Int64.ofInt (a + b) := (Int64.ofInt_add a b).symm
theorem jo_sub (a b : Int) : Int64.ofInt a - Int64.ofInt b = Int64.ofInt (a - b) := (Int64.ofInt_sub a b).symm
theorem jo_mul (a b : Int) : Int64.ofInt a * Int64.ofInt b = Int64.ofInt (a * b) := (Int64.ofInt_mul a b).symm
theorem jo_div {a b : Int} (ha : 0 ≤ a ∧ a < 9223372036854775808) (hb : 0 < b ∧ b < 9223372036854775808) : Int64.ofInt a / Int64.ofInt b = Int64.ofInt (a / b) := by
  rw [← Int64.toInt_inj, lg_ldiv_nonneg (by rw [jo_toInt (by omega)]; exact ha.1) (by rw [jo_toInt (by omega)]; exact hb.1), jo_toInt (by omega), jo_toInt (by omega), jo_toInt]
  have h1 : 0 ≤ a / b := Int.ediv_nonneg ha.1 (by omega)
  have h2 : a / b ≤ a := Int.ediv_le_self b ha.1
  omega
theorem jo_le {a b : Int} (ha : jo_R a) (hb : jo_R b) : (Int64.ofInt a ≤ Int64.ofInt b) = (a ≤ b) := by
  rw [Int64.le_iff_toInt_le, jo_toInt ha, jo_toInt hb]
theorem jo_lt {a b : Int} (ha : jo_R a) (hb : jo_R b) : (Int64.ofInt a < Int64.ofInt b) = (a < b) := by
  rw [Int64.lt_iff_toInt_lt, jo_toInt ha, jo_toInt hb]
theorem jo_eq {a b : Int} (ha : jo_R a) (hb : jo_R b) : (Int64.ofInt a = Int64.ofInt b) = (a = b) := by
  rw [← Int64.toInt_inj, jo_toInt ha, jo_toInt hb]
end
section
/-! the memory by numbers: I x k is the number in slot k of the cell x. Cells: 0 the kernel, 1 its tasks, 2 its ceilings, 3 its server, 4 the server's needs, 5 its trace, 6 the trace's codes, 7 the script, 8 the reference, 9 to 27 its arrays; behind 32, eight for each task: the task, its sections, its job, the job's counted spells, four sections -/
abbrev sp_I : Type := Nat → Nat → Int
def ad_t (i : Nat) : Nat := 32 + 8 * i
def ad_a (i : Nat) : Nat := 33 + 8 * i
def ad_j (i : Nat) : Nat := 34 + 8 * i
def ad_c (i : Nat) : Nat := 35 + 8 * i
def ad_s (i k : Nat) : Nat := 36 + 8 * i + k
def sp_n (I : sp_I) : Nat := (I 0 4).toNat
def sp_c (I : sp_I) (i : Nat) : Nat := (I (ad_t i) 5).toNat
def sp_T0 (I : sp_I) (x : Nat) : Option (Nat × Nat) := match x with
  | 0 => some (0, 8)
  | 1 => some (102, 6)
  | 2 => some (100, 4)
  | 3 => some (1, 9)
  | 4 => some (100, 8)
  | 5 => some (2, 4)
  | 6 => some (100, 64)
  | 7 => some (101, (I 30 0).toNat)
  | 8 => some (6, 35)
  | 9 => some (100, 6)
  | 10 => some (100, 6)
  | 11 => some (100, 6)
  | 12 => some (100, 6)
  | 13 => some (100, 24)
  | 14 => some (100, 24)
  | 15 => some (100, 24)
  | 16 => some (100, 8)
  | 17 => some (100, 6)
  | 18 => some (100, 6)
  | 19 => some (100, 6)
  | 20 => some (100, 6)
  | 21 => some (100, 6)
  | 22 => some (100, 6)
  | 23 => some (100, 6)
  | 24 => some (100, 360)
  | 25 => some (100, 6)
  | 26 => some (100, 6)
  | 27 => some (100, 64)
  | _ => none
def sp_T1 (I : sp_I) (i o : Nat) : Option (Nat × Nat) := match o with
  | 0 => some (3, 10)
  | 1 => some (103, 4)
  | 2 => some (5, 7)
  | 3 => some (100, 6)
  | k + 4 => if k < sp_c I i then some (4, 3) else none
def sp_T (I : sp_I) : mm_T := fun x => if x < 32 then sp_T0 I x else if (x - 32) / 8 < sp_n I then sp_T1 I ((x - 32) / 8) ((x - 32) % 8) else none
/-- the references of the cells that are always there -/
def sp_V0 (I : sp_I) (x k : Nat) : Value := match x with
  | 0 => (match k with
    | 0 => .ref 1
    | 1 => .ref 2
    | 2 => .ref 3
    | 3 => .ref 5
    | _ => io_v (I 0 k))
  | 1 => if k < sp_n I then .ref (ad_t k) else .null
  | 3 => (match k with
    | 0 => .ref 4
    | _ => io_v (I 3 k))
  | 5 => (match k with
    | 0 => .ref 6
    | _ => io_v (I 5 k))
  | 8 => (match k with
    | 1 => .ref 9
    | 2 => .ref 10
    | 3 => .ref 11
    | 4 => .ref 12
    | 5 => .ref 13
    | 6 => .ref 14
    | 7 => .ref 15
    | 15 => .ref 16
    | 18 => .ref 17
    | 19 => .ref 18
    | 20 => .ref 19
    | 21 => .ref 20
    | 22 => .ref 21
    | 23 => .ref 22
    | 24 => .ref 23
    | 25 => .ref 24
    | 26 => .ref 25
    | 27 => .ref 26
    | 34 => .ref 27
    | _ => io_v (I 8 k))
  | _ => io_v (I x k)
def sp_V1 (I : sp_I) (i o x k : Nat) : Value := match o with
  | 0 => (match k with
    | 3 => .ref (ad_a i)
    | 4 => .ref (ad_j i)
    | _ => io_v (I x k))
  | 1 => if k < sp_c I i then .ref (ad_s i k) else .null
  | 2 => (match k with
    | 0 => .ref (ad_c i)
    | _ => io_v (I x k))
  | _ => io_v (I x k)
def sp_V (I : sp_I) : mm_V := fun x k => if x < 32 then sp_V0 I x k else sp_V1 I ((x - 32) / 8) ((x - 32) % 8) x k
def sp_me (I : sp_I) (c s : Nat) : mm_M := (sp_T I, sp_V I, c, s)
def up_I (I : sp_I) (x k : Nat) (a : Int) : sp_I := fun y j => if y = x ∧ j = k then a else I y j
theorem up_same (I : sp_I) (x k : Nat) (a : Int) : up_I I x k a x k = a := by unfold up_I; rw [if_pos ⟨rfl, rfl⟩]
theorem up_slot {I : sp_I} {x k y j : Nat} {a : Int} (h : j ≠ k) : up_I I x k a y j = I y j := by unfold up_I; rw [if_neg (fun q => h q.2)]
theorem up_cell {I : sp_I} {x k y j : Nat} {a : Int} (h : y ≠ x) : up_I I x k a y j = I y j := by unfold up_I; rw [if_neg (fun q => h q.1)]
theorem sp_t_div (i : Nat) : ¬ ad_t i < 32 ∧ (ad_t i - 32) / 8 = i ∧ (ad_t i - 32) % 8 = 0 := by unfold ad_t; omega
theorem sp_a_div (i : Nat) : ¬ ad_a i < 32 ∧ (ad_a i - 32) / 8 = i ∧ (ad_a i - 32) % 8 = 1 := by unfold ad_a; omega
theorem sp_j_div (i : Nat) : ¬ ad_j i < 32 ∧ (ad_j i - 32) / 8 = i ∧ (ad_j i - 32) % 8 = 2 := by unfold ad_j; omega
theorem sp_c_div (i : Nat) : ¬ ad_c i < 32 ∧ (ad_c i - 32) / 8 = i ∧ (ad_c i - 32) % 8 = 3 := by unfold ad_c; omega
theorem sp_s_div (i k : Nat) (h : k < 4) : ¬ ad_s i k < 32 ∧ (ad_s i k - 32) / 8 = i ∧ (ad_s i k - 32) % 8 = k + 4 := by unfold ad_s; omega
theorem sp_T_t {I : sp_I} {i : Nat} (h : i < sp_n I) : sp_T I (ad_t i) = some (3, 10) := by
  obtain ⟨a, b, c⟩ := sp_t_div i
  unfold sp_T
  rw [if_neg a, b, c, if_pos h]
  rfl
theorem sp_T_a {I : sp_I} {i : Nat} (h : i < sp_n I) : sp_T I (ad_a i) = some (103, 4) := by
  obtain ⟨a, b, c⟩ := sp_a_div i
  unfold sp_T
  rw [if_neg a, b, c, if_pos h]
  rfl
theorem sp_T_j {I : sp_I} {i : Nat} (h : i < sp_n I) : sp_T I (ad_j i) = some (5, 7) := by
  obtain ⟨a, b, c⟩ := sp_j_div i
  unfold sp_T
  rw [if_neg a, b, c, if_pos h]
  rfl
theorem sp_T_c {I : sp_I} {i : Nat} (h : i < sp_n I) : sp_T I (ad_c i) = some (100, 6) := by
  obtain ⟨a, b, c⟩ := sp_c_div i
  unfold sp_T
  rw [if_neg a, b, c, if_pos h]
  rfl
theorem sp_T_s {I : sp_I} {i k : Nat} (h : i < sp_n I) (h4 : k < 4) (hk : k < sp_c I i) : sp_T I (ad_s i k) = some (4, 3) := by
  obtain ⟨a, b, c⟩ := sp_s_div i k h4
  unfold sp_T
  rw [if_neg a, b, c, if_pos h]
  show (if k < sp_c I i then _ else _) = _
  rw [if_pos hk]
theorem sp_V_1 {I : sp_I} {k : Nat} (h : k < sp_n I) : sp_V I 1 k = .ref (ad_t k) := by
  show (if k < sp_n I then _ else _) = _
  rw [if_pos h]
theorem sp_V_a {I : sp_I} {i k : Nat} (h : k < sp_c I i) : sp_V I (ad_a i) k = .ref (ad_s i k) := by
  obtain ⟨a, b, c⟩ := sp_a_div i
  unfold sp_V
  rw [if_neg a, b, c]
  show (if k < sp_c I i then _ else _) = _
  rw [if_pos h]
theorem sp_V_t0 (I : sp_I) (i : Nat) : sp_V I (ad_t i) 0 = io_v (I (ad_t i) 0) := by
  obtain ⟨a, b, c⟩ := sp_t_div i
  unfold sp_V
  rw [if_neg a, b, c]
  rfl
theorem sp_V_t1 (I : sp_I) (i : Nat) : sp_V I (ad_t i) 1 = io_v (I (ad_t i) 1) := by
  obtain ⟨a, b, c⟩ := sp_t_div i
  unfold sp_V
  rw [if_neg a, b, c]
  rfl
theorem sp_V_t2 (I : sp_I) (i : Nat) : sp_V I (ad_t i) 2 = io_v (I (ad_t i) 2) := by
  obtain ⟨a, b, c⟩ := sp_t_div i
  unfold sp_V
  rw [if_neg a, b, c]
  rfl
theorem sp_V_t5 (I : sp_I) (i : Nat) : sp_V I (ad_t i) 5 = io_v (I (ad_t i) 5) := by
  obtain ⟨a, b, c⟩ := sp_t_div i
  unfold sp_V
  rw [if_neg a, b, c]
  rfl
theorem sp_V_t6 (I : sp_I) (i : Nat) : sp_V I (ad_t i) 6 = io_v (I (ad_t i) 6) := by
  obtain ⟨a, b, c⟩ := sp_t_div i
  unfold sp_V
  rw [if_neg a, b, c]
  rfl
theorem sp_V_t7 (I : sp_I) (i : Nat) : sp_V I (ad_t i) 7 = io_v (I (ad_t i) 7) := by
  obtain ⟨a, b, c⟩ := sp_t_div i
  unfold sp_V
  rw [if_neg a, b, c]
  rfl
theorem sp_V_t8 (I : sp_I) (i : Nat) : sp_V I (ad_t i) 8 = io_v (I (ad_t i) 8) := by
  obtain ⟨a, b, c⟩ := sp_t_div i
  unfold sp_V
  rw [if_neg a, b, c]
  rfl
theorem sp_V_t9 (I : sp_I) (i : Nat) : sp_V I (ad_t i) 9 = io_v (I (ad_t i) 9) := by
  obtain ⟨a, b, c⟩ := sp_t_div i
  unfold sp_V
  rw [if_neg a, b, c]
  rfl
theorem sp_V_t3 (I : sp_I) (i : Nat) : sp_V I (ad_t i) 3 = .ref (ad_a i) := by
  obtain ⟨a, b, c⟩ := sp_t_div i
  unfold sp_V
  rw [if_neg a, b, c]
  rfl
theorem sp_V_t4 (I : sp_I) (i : Nat) : sp_V I (ad_t i) 4 = .ref (ad_j i) := by
  obtain ⟨a, b, c⟩ := sp_t_div i
  unfold sp_V
  rw [if_neg a, b, c]
  rfl
theorem sp_V_j0 (I : sp_I) (i : Nat) : sp_V I (ad_j i) 0 = .ref (ad_c i) := by
  obtain ⟨a, b, c⟩ := sp_j_div i
  unfold sp_V
  rw [if_neg a, b, c]
  rfl
theorem sp_V_j1 (I : sp_I) (i : Nat) : sp_V I (ad_j i) 1 = io_v (I (ad_j i) 1) := by
  obtain ⟨a, b, c⟩ := sp_j_div i
  unfold sp_V
  rw [if_neg a, b, c]
  rfl
theorem sp_V_j2 (I : sp_I) (i : Nat) : sp_V I (ad_j i) 2 = io_v (I (ad_j i) 2) := by
  obtain ⟨a, b, c⟩ := sp_j_div i
  unfold sp_V
  rw [if_neg a, b, c]
  rfl
theorem sp_V_j3 (I : sp_I) (i : Nat) : sp_V I (ad_j i) 3 = io_v (I (ad_j i) 3) := by
  obtain ⟨a, b, c⟩ := sp_j_div i
  unfold sp_V
  rw [if_neg a, b, c]
  rfl
theorem sp_V_j4 (I : sp_I) (i : Nat) : sp_V I (ad_j i) 4 = io_v (I (ad_j i) 4) := by
  obtain ⟨a, b, c⟩ := sp_j_div i
  unfold sp_V
  rw [if_neg a, b, c]
  rfl
theorem sp_V_j5 (I : sp_I) (i : Nat) : sp_V I (ad_j i) 5 = io_v (I (ad_j i) 5) := by
  obtain ⟨a, b, c⟩ := sp_j_div i
  unfold sp_V
  rw [if_neg a, b, c]
  rfl
theorem sp_V_j6 (I : sp_I) (i : Nat) : sp_V I (ad_j i) 6 = io_v (I (ad_j i) 6) := by
  obtain ⟨a, b, c⟩ := sp_j_div i
  unfold sp_V
  rw [if_neg a, b, c]
  rfl
theorem sp_V_c (I : sp_I) (i k : Nat) : sp_V I (ad_c i) k = io_v (I (ad_c i) k) := by
  obtain ⟨a, b, c⟩ := sp_c_div i
  unfold sp_V
  rw [if_neg a, b, c]
  rfl
theorem sp_V_s {I : sp_I} {i k j : Nat} (h : k < 4) : sp_V I (ad_s i k) j = io_v (I (ad_s i k) j) := by
  obtain ⟨a, b, c⟩ := sp_s_div i k h
  unfold sp_V
  rw [if_neg a, b, c]
  rfl
/-- what a store of a number does -/
theorem sp_wr {I : sp_I} {x k c s : Nat} {a : Int} (hx : ∀ J : sp_I, sp_V J x k = io_v (J x k)) (h4 : ¬ (0 = x ∧ 4 = k)) (h5 : ∀ i, ¬ (ad_t i = x ∧ 5 = k)) (h30 : ¬ (30 = x ∧ 0 = k)) : mm_wr (sp_me I c s) x k (io_v a) = sp_me (up_I I x k a) c s := by
  have hn : sp_n (up_I I x k a) = sp_n I := by unfold sp_n up_I; rw [if_neg h4]
  have hc : ∀ i, sp_c (up_I I x k a) i = sp_c I i := fun i => by unfold sp_c up_I; rw [if_neg (h5 i)]
  have h3 : up_I I x k a 30 0 = I 30 0 := by unfold up_I; rw [if_neg h30]
  have hT : sp_T (up_I I x k a) = sp_T I := by
    funext y
    unfold sp_T sp_T0 sp_T1
    simp only [hn, hc, h3]
  have hV : mm_up (sp_V I) x k (io_v a) = sp_V (up_I I x k a) := by
    funext y j
    unfold mm_up
    by_cases e : y = x ∧ j = k
    · rw [if_pos e]
      obtain ⟨rfl, rfl⟩ := e
      rw [hx, up_same]
    · rw [if_neg e]
      have e1 : up_I I x k a y j = I y j := by unfold up_I; rw [if_neg e]
      unfold sp_V
      split
      · unfold sp_V0
        split <;> first | (rw [hn]; done) | (split <;> first | rfl | (rw [e1]; done)) | (rw [e1]; done) | skip
      · unfold sp_V1
        split <;> first | (rw [hc]; done) | (split <;> first | rfl | (rw [e1]; done)) | (rw [e1]; done) | skip
  show (sp_T I, mm_up (sp_V I) x k (io_v a), c, s) = (sp_T (up_I I x k a), sp_V (up_I I x k a), c, s)
  rw [hV, hT]
end
