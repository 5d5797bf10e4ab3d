/-! A machine of our own over abstract addresses. A cell: kind and length; its contents: a value by address and slot. Kinds: below 100 the classes by number; 100 an int array, 101 the script, 102 and 103 arrays of references. -/
abbrev mm_T : Type := Nat → Option (Nat × Nat)
abbrev mm_V : Type := Nat → Nat → Value
abbrev mm_M : Type := mm_T × mm_V × Nat × Nat
abbrev mm_R : Type := Option Value × mm_M
abbrev mm_E : Type := Instr × Nat × Nat × Nat
/-- table; locals of a method; field types; slots of a class; the address of the next making; what a method answers (0 nothing, 1 an int, 2 a boolean); class of the receiver -/
abbrev mm_G : Type := (Nat → Nat → Option mm_E) × (Nat → Nat) × (Nat → Nat → FieldType) × (Nat → Nat) × (Nat → Nat → List Value → mm_V → Nat) × (Nat → Nat) × (Nat → Nat)
abbrev mm_tb (G : mm_G) : Nat → Nat → Option mm_E := G.1
abbrev mm_mx (G : mm_G) : Nat → Nat := G.2.1
abbrev mm_ft (G : mm_G) : Nat → Nat → FieldType := G.2.2.1
abbrev mm_sl (G : mm_G) : Nat → Nat := G.2.2.2.1
abbrev mm_pk (G : mm_G) : Nat → Nat → List Value → mm_V → Nat := G.2.2.2.2.1
abbrev mm_rb (G : mm_G) : Nat → Nat := G.2.2.2.2.2.1
abbrev mm_rc (G : mm_G) : Nat → Nat := G.2.2.2.2.2.2
abbrev mm_F : Type := Nat → Nat → Nat → List Value → List Value → mm_M → Option mm_R
def mm_up (V : mm_V) (x k : Nat) (v : Value) : mm_V := fun y j => if y = x ∧ j = k then v else V y j
def mm_wr (g : mm_M) (x k : Nat) (v : Value) : mm_M := (g.1, mm_up g.2.1 x k v, g.2.2)
def mm_alT (T : mm_T) (x kd len : Nat) : mm_T := fun y => if y = x then some (kd, len) else T y
def mm_alV (V : mm_V) (x : Nat) (z : Nat → Value) : mm_V := fun y j => if y = x then z j else V y j
def mm_al (g : mm_M) (x kd len : Nat) (z : Nat → Value) : mm_M := (mm_alT g.1 x kd len, mm_alV g.2.1 x z, g.2.2.1 + 1, g.2.2.2 + len)
def mm_i1 (st : List Value) (k : Int32 → List Value → Option mm_R) : Option mm_R := match st with
  | .int x :: r => k x r
  | _ => none
def mm_i2 (st : List Value) (k : Int32 → Int32 → List Value → Option mm_R) : Option mm_R := match st with
  | .int y :: .int x :: r => k x y r
  | _ => none
def mm_l1 (st : List Value) (k : Int64 → List Value → Option mm_R) : Option mm_R := match st with
  | .long x :: r => k x r
  | _ => none
def mm_l2 (st : List Value) (k : Int64 → Int64 → List Value → Option mm_R) : Option mm_R := match st with
  | .long y :: .long x :: r => k x y r
  | _ => none
def mm_r1 (st : List Value) (k : Nat → List Value → Option mm_R) : Option mm_R := match st with
  | .ref x :: r => k x r
  | _ => none
def mm_vr (st : List Value) (k : Value → Nat → List Value → Option mm_R) : Option mm_R := match st with
  | v :: .ref x :: r => k v x r
  | _ => none
def mm_ir (st : List Value) (k : Int32 → Nat → List Value → Option mm_R) : Option mm_R := match st with
  | .int j :: .ref x :: r => k j x r
  | _ => none
def mm_iir (st : List Value) (k : Int32 → Int32 → Nat → List Value → Option mm_R) : Option mm_R := match st with
  | .int v :: .int j :: .ref x :: r => k v j x r
  | _ => none
def mm_rir (st : List Value) (k : Nat → Int32 → Nat → List Value → Option mm_R) : Option mm_R := match st with
  | .ref v :: .int j :: .ref x :: r => k v j x r
  | _ => none
def mm_v1 (st : List Value) (k : Value → List Value → Option mm_R) : Option mm_R := match st with
  | v :: r => k v r
  | _ => none
def mm_v2 (st : List Value) (k : Value → Value → List Value → Option mm_R) : Option mm_R := match st with
  | v :: w :: r => k v w r
  | _ => none
def mm_in (o : Option (Nat × Nat)) (lo hi : Nat) (j : Int32) : Bool := match o with
  | some (kd, len) => decide (lo ≤ kd ∧ kd ≤ hi ∧ 0 ≤ j ∧ j.toNatClampNeg < len)
  | none => false
def mm_ln (o : Option (Nat × Nat)) (k : Nat → Option mm_R) : Option mm_R := match o with
  | some (kd, len) => if 100 ≤ kd ∧ kd ≤ 103 then k len else none
  | none => none
def mm_ld (ls : List Value) (i : Nat) : Value := ls.getD i (.retAddr 0)
def mm_oi (v : Value) (k : Int32 → Option mm_R) : Option mm_R := match v with
  | .int x => k x
  | _ => none
def mm_or (v : Value) (k : Nat → Option mm_R) : Option mm_R := match v with
  | .ref x => k x
  | _ => none
def mm_ol (v : Value) (k : Int64 → Option mm_R) : Option mm_R := match v with
  | .long x => k x
  | _ => none
def mm_so (ls : List Value) (i n : Nat) : Bool := decide (i + n ≤ ls.length) && (decide (i = 0) || decide ((mm_ld ls (i - 1)).category = 1))
def mm_ar (v : Value) : Bool := match v with
  | .int _ => true
  | .ref _ => true
  | _ => false
def mm_c1 (v : Value) : Bool := decide (v.category = 1)
def mm_go (o : Option Int) (pc : Nat) (k : Nat → Option mm_R) : Option mm_R := match o with
  | some off => if 0 ≤ (pc : Int) + off then k ((pc : Int) + off).toNat else none
  | none => none
/-- a call: depth d, n values (the receiver among them) off the stack -/
def mm_cl (G : mm_G) (f : mm_F) (d μ pc μ' n : Nat) (ls st : List Value) (g : mm_M) : Option mm_R := match d with
  | 0 => none
  | d' + 1 => if n ≤ st.length ∧ (st.drop n).length ≤ 4 ∧ (st.take n).all mm_ar = true then
      match f d' μ' 0 ((st.take n).reverse ++ List.replicate (mm_mx G μ' - n) (.retAddr 0)) [] (g.1, g.2.1, 0, 0) with
      | some q => f (d' + 1) μ (pc + 3) ls (q.1.toList ++ st.drop n) (q.2.1, q.2.2.1, g.2.2.1 + q.2.2.2.1, g.2.2.2 + q.2.2.2.2)
      | none => none
    else none
/-- the receiver of a virtual call is of the class that the method is of -/
def mm_rv (G : mm_G) (μ' n : Nat) (st : List Value) (T : mm_T) : Bool := match st[n - 1]? with
  | some (.ref x) => decide (T x = some (mm_rc G μ', mm_sl G (mm_rc G μ')))
  | _ => false
def mm_rf (n : Nat) (st : List Value) : Bool := match st[n - 1]? with
  | some (.ref _) => true
  | _ => false
def mm_stp (G : mm_G) (f : mm_F) (d μ pc : Nat) (ls st : List Value) (g : mm_M) : Option mm_R := match mm_tb G μ pc with
  | none => none
  | some (ins, a, b, _) => match ins with
    | .iconst n => f d μ (pc + 1) ls (.int (Int32.ofInt n) :: st) g
    | .bipush n => f d μ (pc + 2) ls (.int (Int32.ofInt n) :: st) g
    | .sipush n => f d μ (pc + 3) ls (.int (Int32.ofInt n) :: st) g
    | .lconst n => f d μ (pc + 1) ls (.long (Int64.ofNat n) :: st) g
    | .iload i => mm_oi (mm_ld ls i) fun x => f d μ (pc + 2) ls (.int x :: st) g
    | .iload_n i => mm_oi (mm_ld ls i) fun x => f d μ (pc + 1) ls (.int x :: st) g
    | .aload i => mm_or (mm_ld ls i) fun x => f d μ (pc + 2) ls (.ref x :: st) g
    | .aload_n i => mm_or (mm_ld ls i) fun x => f d μ (pc + 1) ls (.ref x :: st) g
    | .lload i => mm_ol (mm_ld ls i) fun x => f d μ (pc + 2) ls (.long x :: st) g
    | .lload_n i => mm_ol (mm_ld ls i) fun x => f d μ (pc + 1) ls (.long x :: st) g
    | .istore i => mm_i1 st fun x r => if mm_so ls i 1 = true then f d μ (pc + 2) (ls.set i (.int x)) r g else none
    | .istore_n i => mm_i1 st fun x r => if mm_so ls i 1 = true then f d μ (pc + 1) (ls.set i (.int x)) r g else none
    | .astore i => mm_r1 st fun x r => if mm_so ls i 1 = true then f d μ (pc + 2) (ls.set i (.ref x)) r g else none
    | .astore_n i => mm_r1 st fun x r => if mm_so ls i 1 = true then f d μ (pc + 1) (ls.set i (.ref x)) r g else none
    | .lstore i => mm_l1 st fun x r => if mm_so ls i 2 = true then f d μ (pc + 2) ((ls.set i (.long x)).set (i + 1) (.retAddr 0)) r g else none
    | .lstore_n i => mm_l1 st fun x r => if mm_so ls i 2 = true then f d μ (pc + 1) ((ls.set i (.long x)).set (i + 1) (.retAddr 0)) r g else none
    | .iinc i n => mm_oi (mm_ld ls i) fun x => if mm_so ls i 1 = true then f d μ (pc + 3) (ls.set i (.int (x + Int32.ofInt n))) st g else none
    | .iadd => mm_i2 st fun x y r => f d μ (pc + 1) ls (.int (x + y) :: r) g
    | .isub => mm_i2 st fun x y r => f d μ (pc + 1) ls (.int (x - y) :: r) g
    | .imul => mm_i2 st fun x y r => f d μ (pc + 1) ls (.int (x * y) :: r) g
    | .iand => mm_i2 st fun x y r => f d μ (pc + 1) ls (.int (x &&& y) :: r) g
    | .i2l => mm_i1 st fun x r => f d μ (pc + 1) ls (.long x.toInt64 :: r) g
    | .ladd => mm_l2 st fun x y r => f d μ (pc + 1) ls (.long (x + y) :: r) g
    | .lsub => mm_l2 st fun x y r => f d μ (pc + 1) ls (.long (x - y) :: r) g
    | .lmul => mm_l2 st fun x y r => f d μ (pc + 1) ls (.long (x * y) :: r) g
    | .ldiv => mm_l2 st fun x y r => if y = 0 then none else f d μ (pc + 1) ls (.long (x / y) :: r) g
    | .lcmp => mm_l2 st fun x y r => f d μ (pc + 1) ls (.int (lg_cmp x y) :: r) g
    | .dup => mm_v1 st fun v r => if mm_c1 v = true then f d μ (pc + 1) ls (v :: v :: r) g else none
    | .dup2 => mm_v2 st fun v w r => if mm_c1 v = true ∧ mm_c1 w = true then f d μ (pc + 1) ls (v :: w :: v :: w :: r) g else none
    | .ifCond .eq _ => mm_i1 st fun x r => if x = 0 then f d μ a ls r g else f d μ (pc + 3) ls r g
    | .ifCond .ne _ => mm_i1 st fun x r => if ¬ x = 0 then f d μ a ls r g else f d μ (pc + 3) ls r g
    | .ifCond .lt _ => mm_i1 st fun x r => if x < 0 then f d μ a ls r g else f d μ (pc + 3) ls r g
    | .ifCond .ge _ => mm_i1 st fun x r => if 0 ≤ x then f d μ a ls r g else f d μ (pc + 3) ls r g
    | .ifCond .gt _ => mm_i1 st fun x r => if 0 < x then f d μ a ls r g else f d μ (pc + 3) ls r g
    | .ifCond .le _ => mm_i1 st fun x r => if x ≤ 0 then f d μ a ls r g else f d μ (pc + 3) ls r g
    | .if_icmp .eq _ => mm_i2 st fun x y r => if x = y then f d μ a ls r g else f d μ (pc + 3) ls r g
    | .if_icmp .ne _ => mm_i2 st fun x y r => if ¬ x = y then f d μ a ls r g else f d μ (pc + 3) ls r g
    | .if_icmp .lt _ => mm_i2 st fun x y r => if x < y then f d μ a ls r g else f d μ (pc + 3) ls r g
    | .if_icmp .ge _ => mm_i2 st fun x y r => if y ≤ x then f d μ a ls r g else f d μ (pc + 3) ls r g
    | .if_icmp .gt _ => mm_i2 st fun x y r => if y < x then f d μ a ls r g else f d μ (pc + 3) ls r g
    | .if_icmp .le _ => mm_i2 st fun x y r => if x ≤ y then f d μ a ls r g else f d μ (pc + 3) ls r g
    | .goto _ => f d μ a ls st g
    | .tableswitch dflt lo hi offs => mm_i1 st fun x r => mm_go (if x.toInt < lo ∨ hi < x.toInt then some dflt else offs[(x.toInt - lo).toNat]?) pc fun t => f d μ t ls r g
    | .getfield _ => mm_r1 st fun x r => if g.1 x = some (a, mm_sl G a) then f d μ (pc + 3) ls (g.2.1 x b :: r) g else none
    | .putfield _ => mm_vr st fun v x r => if g.1 x = some (a, mm_sl G a) ∧ fits (mm_ft G a b) v = true then f d μ (pc + 3) ls r (mm_wr g x b v) else none
    | .iaload => mm_ir st fun j x r => if mm_in (g.1 x) 100 101 j = true then f d μ (pc + 1) ls (g.2.1 x j.toNatClampNeg :: r) g else none
    | .aaload => mm_ir st fun j x r => if mm_in (g.1 x) 102 103 j = true then f d μ (pc + 1) ls (g.2.1 x j.toNatClampNeg :: r) g else none
    | .iastore => mm_iir st fun v j x r => if mm_in (g.1 x) 100 100 j = true then f d μ (pc + 1) ls r (mm_wr g x j.toNatClampNeg (.int v)) else none
    | .aastore => mm_rir st fun v j x r => if mm_in (g.1 x) a a j = true ∧ g.1 v = some (b, mm_sl G b) then f d μ (pc + 1) ls r (mm_wr g x j.toNatClampNeg (.ref v)) else none
    | .arraylength => mm_r1 st fun x r => mm_ln (g.1 x) fun len => f d μ (pc + 1) ls (.int (Int32.ofNat len) :: r) g
    | .new _ => if g.1 (mm_pk G μ pc ls g.2.1) = none then f d μ (pc + 3) ls (.ref (mm_pk G μ pc ls g.2.1) :: st) (mm_al g (mm_pk G μ pc ls g.2.1) a (mm_sl G a) fun k => defaultValue (mm_ft G a k)) else none
    | .newarray _ => mm_i1 st fun n r => if g.1 (mm_pk G μ pc ls g.2.1) = none ∧ 0 ≤ n ∧ n.toNatClampNeg ≤ 1000 then f d μ (pc + 2) ls (.ref (mm_pk G μ pc ls g.2.1) :: r) (mm_al g (mm_pk G μ pc ls g.2.1) 100 n.toNatClampNeg fun _ => .int 0) else none
    | .anewarray _ => mm_i1 st fun n r => if g.1 (mm_pk G μ pc ls g.2.1) = none ∧ 0 ≤ n ∧ n.toNatClampNeg ≤ 1000 then f d μ (pc + 3) ls (.ref (mm_pk G μ pc ls g.2.1) :: r) (mm_al g (mm_pk G μ pc ls g.2.1) a n.toNatClampNeg fun _ => .null) else none
    | .invokestatic _ => if a = 999 then (if d = 0 then none else mm_i2 st fun x y r => if r.length ≤ 4 then f d μ (pc + 3) ls (.int (if x < y then y else x) :: r) g else none) else mm_cl G f d μ pc a b ls st g
    | .invokevirtual _ => if mm_rv G a b st g.1 = true then mm_cl G f d μ pc a b ls st g else none
    | .invokespecial _ => if a = 998 then (if d = 0 then none else mm_r1 st fun _ r => if r.length ≤ 4 then f d μ (pc + 3) ls r g else none) else if mm_rf b st = true then mm_cl G f d μ pc a b ls st g else none
    | .ireturn => mm_i1 st fun x r => if r = [] ∧ (mm_rb G μ = 1 ∨ mm_rb G μ = 2 ∧ (x = 0 ∨ x = 1)) then some (some (.int x), g) else none
    | .return_ => if st = [] ∧ mm_rb G μ = 0 then some (none, g) else none
    | _ => none
def mm_run (G : mm_G) : Nat → mm_F
  | 0 => fun _ _ _ _ _ _ => none
  | n + 1 => mm_stp G (mm_run G n)
