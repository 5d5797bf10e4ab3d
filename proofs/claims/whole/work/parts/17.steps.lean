/-! more steps answer no less -/
set_option maxHeartbeats 4000000 in
set_option maxRecDepth 20000 in
theorem mm_stp_mono {G : mm_G} {f f' : mm_F} (hf : ∀ d μ pc ls st g r, f d μ pc ls st g = some r → f' d μ pc ls st g = some r) {d μ pc : Nat} {ls st : List Value} {g : mm_M} {r : mm_R} (h : mm_stp G f d μ pc ls st g = some r) : mm_stp G f' d μ pc ls st g = some r := by
  have hcl : ∀ {a b : Nat}, mm_cl G f d μ pc a b ls st g = some r → mm_cl G f' d μ pc a b ls st g = some r := by
    intro a b h
    cases d with
    | zero => cases h
    | succ d =>
    unfold mm_cl at h ⊢
    obtain ⟨hc, h⟩ := mm_if_some h
    refine (if_pos hc).trans ?_
    split at h
    · rename_i q hq
      rw [hf _ _ _ _ _ _ _ hq]
      exact hf _ _ _ _ _ _ _ h
    · cases h
  unfold mm_stp at h ⊢
  split at h
  · cases h
  rename_i ins a b w htb
  cases ins with
  | iconst k =>
    exact hf _ _ _ _ _ _ _ h
  | bipush k =>
    exact hf _ _ _ _ _ _ _ h
  | sipush k =>
    exact hf _ _ _ _ _ _ _ h
  | lconst k =>
    exact hf _ _ _ _ _ _ _ h
  | goto o =>
    exact hf _ _ _ _ _ _ _ h
  | iload i =>
    obtain ⟨x, hx, h⟩ := mm_oi_some h
    show mm_oi (mm_ld ls i) _ = _
    rw [hx]
    exact hf _ _ _ _ _ _ _ h
  | iload_n i =>
    obtain ⟨x, hx, h⟩ := mm_oi_some h
    show mm_oi (mm_ld ls i) _ = _
    rw [hx]
    exact hf _ _ _ _ _ _ _ h
  | aload i =>
    obtain ⟨x, hx, h⟩ := mm_or_some h
    show mm_or (mm_ld ls i) _ = _
    rw [hx]
    exact hf _ _ _ _ _ _ _ h
  | aload_n i =>
    obtain ⟨x, hx, h⟩ := mm_or_some h
    show mm_or (mm_ld ls i) _ = _
    rw [hx]
    exact hf _ _ _ _ _ _ _ h
  | lload i =>
    obtain ⟨x, hx, h⟩ := mm_ol_some h
    show mm_ol (mm_ld ls i) _ = _
    rw [hx]
    exact hf _ _ _ _ _ _ _ h
  | lload_n i =>
    obtain ⟨x, hx, h⟩ := mm_ol_some h
    show mm_ol (mm_ld ls i) _ = _
    rw [hx]
    exact hf _ _ _ _ _ _ _ h
  | istore i =>
    obtain ⟨x, t, rfl, hk⟩ := mm_i1_some h
    obtain ⟨hc, hk⟩ := mm_if_some hk
    exact (if_pos hc).trans (hf _ _ _ _ _ _ _ hk)
  | istore_n i =>
    obtain ⟨x, t, rfl, hk⟩ := mm_i1_some h
    obtain ⟨hc, hk⟩ := mm_if_some hk
    exact (if_pos hc).trans (hf _ _ _ _ _ _ _ hk)
  | astore i =>
    obtain ⟨x, t, rfl, hk⟩ := mm_r1_some h
    obtain ⟨hc, hk⟩ := mm_if_some hk
    exact (if_pos hc).trans (hf _ _ _ _ _ _ _ hk)
  | astore_n i =>
    obtain ⟨x, t, rfl, hk⟩ := mm_r1_some h
    obtain ⟨hc, hk⟩ := mm_if_some hk
    exact (if_pos hc).trans (hf _ _ _ _ _ _ _ hk)
  | lstore i =>
    obtain ⟨x, t, rfl, hk⟩ := mm_l1_some h
    obtain ⟨hc, hk⟩ := mm_if_some hk
    exact (if_pos hc).trans (hf _ _ _ _ _ _ _ hk)
  | lstore_n i =>
    obtain ⟨x, t, rfl, hk⟩ := mm_l1_some h
    obtain ⟨hc, hk⟩ := mm_if_some hk
    exact (if_pos hc).trans (hf _ _ _ _ _ _ _ hk)
  | iinc i k =>
    obtain ⟨x, hx, h⟩ := mm_oi_some h
    obtain ⟨hc, h⟩ := mm_if_some h
    show mm_oi (mm_ld ls i) _ = _
    rw [hx]
    exact (if_pos hc).trans (hf _ _ _ _ _ _ _ h)
  | iadd =>
    obtain ⟨x, y, t, rfl, hk⟩ := mm_i2_some h
    exact hf _ _ _ _ _ _ _ hk
  | isub =>
    obtain ⟨x, y, t, rfl, hk⟩ := mm_i2_some h
    exact hf _ _ _ _ _ _ _ hk
  | imul =>
    obtain ⟨x, y, t, rfl, hk⟩ := mm_i2_some h
    exact hf _ _ _ _ _ _ _ hk
  | iand =>
    obtain ⟨x, y, t, rfl, hk⟩ := mm_i2_some h
    exact hf _ _ _ _ _ _ _ hk
  | ladd =>
    obtain ⟨x, y, t, rfl, hk⟩ := mm_l2_some h
    exact hf _ _ _ _ _ _ _ hk
  | lsub =>
    obtain ⟨x, y, t, rfl, hk⟩ := mm_l2_some h
    exact hf _ _ _ _ _ _ _ hk
  | lmul =>
    obtain ⟨x, y, t, rfl, hk⟩ := mm_l2_some h
    exact hf _ _ _ _ _ _ _ hk
  | lcmp =>
    obtain ⟨x, y, t, rfl, hk⟩ := mm_l2_some h
    exact hf _ _ _ _ _ _ _ hk
  | ldiv =>
    obtain ⟨x, y, t, rfl, hk⟩ := mm_l2_some h
    obtain ⟨hc, hk⟩ := mm_if_none hk
    exact (if_neg hc).trans (hf _ _ _ _ _ _ _ hk)
  | i2l =>
    obtain ⟨x, t, rfl, hk⟩ := mm_i1_some h
    exact hf _ _ _ _ _ _ _ hk
  | dup =>
    obtain ⟨v, t, rfl, hk⟩ := mm_v1_some h
    obtain ⟨hc, hk⟩ := mm_if_some hk
    exact (if_pos hc).trans (hf _ _ _ _ _ _ _ hk)
  | dup2 =>
    obtain ⟨v, w, t, rfl, hk⟩ := mm_v2_some h
    obtain ⟨hc, hk⟩ := mm_if_some hk
    exact (if_pos hc).trans (hf _ _ _ _ _ _ _ hk)
  | ifCond q o =>
    cases q with
    | eq =>
      obtain ⟨x, t, rfl, hk⟩ := mm_i1_some h
      by_cases hq : x = 0
      · rw [if_pos hq] at hk
        exact (if_pos hq).trans (hf _ _ _ _ _ _ _ hk)
      · rw [if_neg hq] at hk
        exact (if_neg hq).trans (hf _ _ _ _ _ _ _ hk)
    | ne =>
      obtain ⟨x, t, rfl, hk⟩ := mm_i1_some h
      by_cases hq : ¬ x = 0
      · rw [if_pos hq] at hk
        exact (if_pos hq).trans (hf _ _ _ _ _ _ _ hk)
      · rw [if_neg hq] at hk
        exact (if_neg hq).trans (hf _ _ _ _ _ _ _ hk)
    | lt =>
      obtain ⟨x, t, rfl, hk⟩ := mm_i1_some h
      by_cases hq : x < 0
      · rw [if_pos hq] at hk
        exact (if_pos hq).trans (hf _ _ _ _ _ _ _ hk)
      · rw [if_neg hq] at hk
        exact (if_neg hq).trans (hf _ _ _ _ _ _ _ hk)
    | ge =>
      obtain ⟨x, t, rfl, hk⟩ := mm_i1_some h
      by_cases hq : 0 ≤ x
      · rw [if_pos hq] at hk
        exact (if_pos hq).trans (hf _ _ _ _ _ _ _ hk)
      · rw [if_neg hq] at hk
        exact (if_neg hq).trans (hf _ _ _ _ _ _ _ hk)
    | gt =>
      obtain ⟨x, t, rfl, hk⟩ := mm_i1_some h
      by_cases hq : 0 < x
      · rw [if_pos hq] at hk
        exact (if_pos hq).trans (hf _ _ _ _ _ _ _ hk)
      · rw [if_neg hq] at hk
        exact (if_neg hq).trans (hf _ _ _ _ _ _ _ hk)
    | le =>
      obtain ⟨x, t, rfl, hk⟩ := mm_i1_some h
      by_cases hq : x ≤ 0
      · rw [if_pos hq] at hk
        exact (if_pos hq).trans (hf _ _ _ _ _ _ _ hk)
      · rw [if_neg hq] at hk
        exact (if_neg hq).trans (hf _ _ _ _ _ _ _ hk)
  | if_icmp q o =>
    cases q with
    | eq =>
      obtain ⟨x, y, t, rfl, hk⟩ := mm_i2_some h
      by_cases hq : x = y
      · rw [if_pos hq] at hk
        exact (if_pos hq).trans (hf _ _ _ _ _ _ _ hk)
      · rw [if_neg hq] at hk
        exact (if_neg hq).trans (hf _ _ _ _ _ _ _ hk)
    | ne =>
      obtain ⟨x, y, t, rfl, hk⟩ := mm_i2_some h
      by_cases hq : ¬ x = y
      · rw [if_pos hq] at hk
        exact (if_pos hq).trans (hf _ _ _ _ _ _ _ hk)
      · rw [if_neg hq] at hk
        exact (if_neg hq).trans (hf _ _ _ _ _ _ _ hk)
    | lt =>
      obtain ⟨x, y, t, rfl, hk⟩ := mm_i2_some h
      by_cases hq : x < y
      · rw [if_pos hq] at hk
        exact (if_pos hq).trans (hf _ _ _ _ _ _ _ hk)
      · rw [if_neg hq] at hk
        exact (if_neg hq).trans (hf _ _ _ _ _ _ _ hk)
    | ge =>
      obtain ⟨x, y, t, rfl, hk⟩ := mm_i2_some h
      by_cases hq : y ≤ x
      · rw [if_pos hq] at hk
        exact (if_pos hq).trans (hf _ _ _ _ _ _ _ hk)
      · rw [if_neg hq] at hk
        exact (if_neg hq).trans (hf _ _ _ _ _ _ _ hk)
    | gt =>
      obtain ⟨x, y, t, rfl, hk⟩ := mm_i2_some h
      by_cases hq : y < x
      · rw [if_pos hq] at hk
        exact (if_pos hq).trans (hf _ _ _ _ _ _ _ hk)
      · rw [if_neg hq] at hk
        exact (if_neg hq).trans (hf _ _ _ _ _ _ _ hk)
    | le =>
      obtain ⟨x, y, t, rfl, hk⟩ := mm_i2_some h
      by_cases hq : x ≤ y
      · rw [if_pos hq] at hk
        exact (if_pos hq).trans (hf _ _ _ _ _ _ _ hk)
      · rw [if_neg hq] at hk
        exact (if_neg hq).trans (hf _ _ _ _ _ _ _ hk)
  | tableswitch df lo hi offs =>
    obtain ⟨x, t, rfl, hk⟩ := mm_i1_some h
    refine (show mm_go (if x.toInt < lo ∨ hi < x.toInt then some df else offs[(x.toInt - lo).toNat]?) pc (fun tt => f' d μ tt ls t g) = some r from ?_)
    unfold mm_go at hk ⊢
    split at hk
    · rename_i off hoff
      obtain ⟨hc, hk⟩ := mm_if_some hk
      exact (if_pos hc).trans (hf _ _ _ _ _ _ _ hk)
    · cases hk
  | getfield i =>
    obtain ⟨x, t, rfl, hk⟩ := mm_r1_some h
    obtain ⟨hc, hk⟩ := mm_if_some hk
    exact (if_pos hc).trans (hf _ _ _ _ _ _ _ hk)
  | putfield i =>
    obtain ⟨v, x, t, rfl, hk⟩ := mm_vr_some h
    obtain ⟨hc, hk⟩ := mm_if_some hk
    exact (if_pos hc).trans (hf _ _ _ _ _ _ _ hk)
  | iaload =>
    obtain ⟨j, x, t, rfl, hk⟩ := mm_ir_some h
    obtain ⟨hc, hk⟩ := mm_if_some hk
    exact (if_pos hc).trans (hf _ _ _ _ _ _ _ hk)
  | aaload =>
    obtain ⟨j, x, t, rfl, hk⟩ := mm_ir_some h
    obtain ⟨hc, hk⟩ := mm_if_some hk
    exact (if_pos hc).trans (hf _ _ _ _ _ _ _ hk)
  | iastore =>
    obtain ⟨v, j, x, t, rfl, hk⟩ := mm_iir_some h
    obtain ⟨hc, hk⟩ := mm_if_some hk
    exact (if_pos hc).trans (hf _ _ _ _ _ _ _ hk)
  | aastore =>
    obtain ⟨v, j, x, t, rfl, hk⟩ := mm_rir_some h
    obtain ⟨hc, hk⟩ := mm_if_some hk
    exact (if_pos hc).trans (hf _ _ _ _ _ _ _ hk)
  | arraylength =>
    obtain ⟨x, t, rfl, hk⟩ := mm_r1_some h
    obtain ⟨kd, len, hT, h1, h2, hk⟩ := mm_ln_some hk
    show mm_ln (g.1 x) _ = some r
    rw [hT]
    exact (if_pos ⟨h1, h2⟩).trans (hf _ _ _ _ _ _ _ hk)
  | new i =>
    obtain ⟨hc, h⟩ := mm_if_some h
    exact (if_pos hc).trans (hf _ _ _ _ _ _ _ h)
  | newarray ty =>
    obtain ⟨k, t, rfl, hk⟩ := mm_i1_some h
    obtain ⟨hc, hk⟩ := mm_if_some hk
    exact (if_pos hc).trans (hf _ _ _ _ _ _ _ hk)
  | anewarray i =>
    obtain ⟨k, t, rfl, hk⟩ := mm_i1_some h
    obtain ⟨hc, hk⟩ := mm_if_some hk
    exact (if_pos hc).trans (hf _ _ _ _ _ _ _ hk)
  | invokestatic i =>
    by_cases ha : a = 999
    · rw [if_pos ha] at h
      obtain ⟨hd0, h⟩ := mm_if_none h
      obtain ⟨x, y, t, rfl, hk⟩ := mm_i2_some h
      obtain ⟨hc, hk⟩ := mm_if_some hk
      exact (if_pos ha).trans ((if_neg hd0).trans ((if_pos hc).trans (hf _ _ _ _ _ _ _ hk)))
    · rw [if_neg ha] at h
      exact (if_neg ha).trans (hcl h)
  | invokevirtual i =>
    obtain ⟨hc, h⟩ := mm_if_some h
    exact (if_pos hc).trans (hcl h)
  | invokespecial i =>
    by_cases ha : a = 998
    · rw [if_pos ha] at h
      obtain ⟨hd0, h⟩ := mm_if_none h
      obtain ⟨x, t, rfl, hk⟩ := mm_r1_some h
      obtain ⟨hc, hk⟩ := mm_if_some hk
      exact (if_pos ha).trans ((if_neg hd0).trans ((if_pos hc).trans (hf _ _ _ _ _ _ _ hk)))
    · rw [if_neg ha] at h
      obtain ⟨hc, h⟩ := mm_if_some h
      exact (if_neg ha).trans ((if_pos hc).trans (hcl h))
  | ireturn => exact h
  | return_ => exact h
  | _ => cases h
theorem mm_mono1 {G : mm_G} : ∀ (n : Nat) (d μ pc : Nat) (ls st : List Value) (g : mm_M) (r : mm_R), mm_run G n d μ pc ls st g = some r → mm_run G (n + 1) d μ pc ls st g = some r
  | 0, _, _, _, _, _, _, _, h => by cases h
  | n + 1, d, μ, pc, ls, st, g, r, h => mm_stp_mono (f := mm_run G n) (f' := mm_run G (n + 1)) (mm_mono1 n) h
theorem mm_mono {G : mm_G} {n k d μ pc : Nat} {ls st : List Value} {g : mm_M} {r : mm_R} (h : mm_run G n d μ pc ls st g = some r) (hk : n ≤ k) : mm_run G k d μ pc ls st g = some r := by
  induction hk with
  | refl => exact h
  | step _ ih => exact mm_mono1 _ _ _ _ _ _ _ _ ih
/-- from here it answers r -/
def mm_Rn (G : mm_G) (d μ pc : Nat) (ls st : List Value) (g : mm_M) (r : mm_R) : Prop := ∃ n, mm_run G n d μ pc ls st g = some r
theorem mm_det {G : mm_G} {d μ pc : Nat} {ls st : List Value} {g : mm_M} {r r' : mm_R} (h : mm_Rn G d μ pc ls st g r) (h' : mm_Rn G d μ pc ls st g r') : r = r' := by
  obtain ⟨n, h⟩ := h
  obtain ⟨k, h'⟩ := h'
  have a := mm_mono h (Nat.le_max_left n k)
  have b := mm_mono h' (Nat.le_max_right n k)
  exact Option.some.inj (a.symm.trans b)
theorem mm_Rn_step {G : mm_G} {d μ pc pc' : Nat} {ls st ls' st' : List Value} {g g' : mm_M} (hs : ∀ f : mm_F, mm_stp G f d μ pc ls st g = f d μ pc' ls' st' g') (r : mm_R) : mm_Rn G d μ pc ls st g r ↔ mm_Rn G d μ pc' ls' st' g' r := by
  constructor
  · rintro ⟨n, h⟩
    cases n with
    | zero => cases h
    | succ n => exact ⟨n, (hs (mm_run G n)).symm.trans h⟩
  · rintro ⟨n, h⟩
    exact ⟨n + 1, (hs (mm_run G n)).trans h⟩
theorem mm_Rn_ret {G : mm_G} {d μ pc : Nat} {ls st : List Value} {g : mm_M} {r : mm_R} (hs : ∀ f : mm_F, mm_stp G f d μ pc ls st g = some r) : mm_Rn G d μ pc ls st g r := ⟨1, hs _⟩
/-- the callee's answer, and what follows -/
theorem mm_Rn_call {G : mm_G} {d μ pc μ' n : Nat} {ls st : List Value} {g : mm_M} {q r : mm_R} (hs : ∀ f : mm_F, mm_stp G f (d + 1) μ pc ls st g = mm_cl G f (d + 1) μ pc μ' n ls st g) (hc : n ≤ st.length ∧ (st.drop n).length ≤ 4 ∧ (st.take n).all mm_ar = true)
    (hq : mm_Rn G d μ' 0 ((st.take n).reverse ++ List.replicate (mm_mx G μ' - n) (.retAddr 0)) [] (g.1, g.2.1, 0, 0) q) :
    mm_Rn G (d + 1) μ pc ls st g r ↔ mm_Rn G (d + 1) μ (pc + 3) ls (q.1.toList ++ st.drop n) (q.2.1, q.2.2.1, g.2.2.1 + q.2.2.2.1, g.2.2.2 + q.2.2.2.2) r := by
  constructor
  · rintro ⟨k, h⟩
    cases k with
    | zero => cases h
    | succ k =>
    have h : mm_stp G (mm_run G k) (d + 1) μ pc ls st g = some r := h
    rw [hs] at h
    unfold mm_cl at h
    obtain ⟨-, h⟩ := mm_if_some h
    split at h
    · rename_i q' hq'
      have : q = q' := mm_det hq ⟨k, hq'⟩
      subst this
      exact ⟨k, h⟩
    · cases h
  · rintro ⟨k, h⟩
    obtain ⟨k', hq⟩ := hq
    refine ⟨max k k' + 1, ?_⟩
    show mm_stp G (mm_run G (max k k')) (d + 1) μ pc ls st g = some r
    rw [hs]
    unfold mm_cl
    refine (if_pos hc).trans ?_
    rw [mm_mono hq (Nat.le_max_right k k')]
    exact mm_mono h (Nat.le_max_left k k')
theorem rn_iconst {G : mm_G} {d μ pc a b w : Nat} {ls t : List Value} {g : mm_M} {k : Int} (h : mm_tb G μ pc = some (.iconst k, a, b, w)) (r : mm_R) : mm_Rn G d μ pc ls (t) g r ↔ mm_Rn G d μ (pc + 1) (ls) (.int (Int32.ofInt k) :: t) (g) r :=
  mm_Rn_step (fun f => by unfold mm_stp; rw [h] <;> rfl) r
theorem rn_bipush {G : mm_G} {d μ pc a b w : Nat} {ls t : List Value} {g : mm_M} {k : Int} (h : mm_tb G μ pc = some (.bipush k, a, b, w)) (r : mm_R) : mm_Rn G d μ pc ls (t) g r ↔ mm_Rn G d μ (pc + 2) (ls) (.int (Int32.ofInt k) :: t) (g) r :=
  mm_Rn_step (fun f => by unfold mm_stp; rw [h] <;> rfl) r
theorem rn_sipush {G : mm_G} {d μ pc a b w : Nat} {ls t : List Value} {g : mm_M} {k : Int} (h : mm_tb G μ pc = some (.sipush k, a, b, w)) (r : mm_R) : mm_Rn G d μ pc ls (t) g r ↔ mm_Rn G d μ (pc + 3) (ls) (.int (Int32.ofInt k) :: t) (g) r :=
  mm_Rn_step (fun f => by unfold mm_stp; rw [h] <;> rfl) r
theorem rn_lconst {G : mm_G} {d μ pc a b w : Nat} {ls t : List Value} {g : mm_M} {k : Fin 2} (h : mm_tb G μ pc = some (.lconst k, a, b, w)) (r : mm_R) : mm_Rn G d μ pc ls (t) g r ↔ mm_Rn G d μ (pc + 1) (ls) (.long (Int64.ofNat k) :: t) (g) r :=
  mm_Rn_step (fun f => by unfold mm_stp; rw [h] <;> rfl) r
theorem rn_iload {G : mm_G} {d μ pc a b w : Nat} {ls t : List Value} {g : mm_M} {i : Nat} {x : Int32} (h : mm_tb G μ pc = some (.iload i, a, b, w)) (hx : mm_ld ls i = .int x) (r : mm_R) : mm_Rn G d μ pc ls (t) g r ↔ mm_Rn G d μ (pc + 2) (ls) (.int x :: t) (g) r :=
  mm_Rn_step (fun f => by unfold mm_stp; rw [h]; show mm_oi (mm_ld ls i) _ = _; rw [hx]; rfl) r
theorem rn_iload_n {G : mm_G} {d μ pc a b w : Nat} {ls t : List Value} {g : mm_M} {i : Fin 4} {x : Int32} (h : mm_tb G μ pc = some (.iload_n i, a, b, w)) (hx : mm_ld ls i = .int x) (r : mm_R) : mm_Rn G d μ pc ls (t) g r ↔ mm_Rn G d μ (pc + 1) (ls) (.int x :: t) (g) r :=
  mm_Rn_step (fun f => by unfold mm_stp; rw [h]; show mm_oi (mm_ld ls i) _ = _; rw [hx]; rfl) r
theorem rn_istore {G : mm_G} {d μ pc a b w : Nat} {ls t : List Value} {g : mm_M} {i : Nat} {x : Int32} (h : mm_tb G μ pc = some (.istore i, a, b, w)) (hc : mm_so ls i 1 = true) (r : mm_R) : mm_Rn G d μ pc ls (.int x :: t) g r ↔ mm_Rn G d μ (pc + 2) (ls.set i (.int x)) (t) (g) r :=
  mm_Rn_step (fun f => by unfold mm_stp; rw [h]; exact if_pos hc) r
theorem rn_istore_n {G : mm_G} {d μ pc a b w : Nat} {ls t : List Value} {g : mm_M} {i : Fin 4} {x : Int32} (h : mm_tb G μ pc = some (.istore_n i, a, b, w)) (hc : mm_so ls i 1 = true) (r : mm_R) : mm_Rn G d μ pc ls (.int x :: t) g r ↔ mm_Rn G d μ (pc + 1) (ls.set i (.int x)) (t) (g) r :=
  mm_Rn_step (fun f => by unfold mm_stp; rw [h]; exact if_pos hc) r
theorem rn_aload {G : mm_G} {d μ pc a b w : Nat} {ls t : List Value} {g : mm_M} {i : Nat} {x : Nat} (h : mm_tb G μ pc = some (.aload i, a, b, w)) (hx : mm_ld ls i = .ref x) (r : mm_R) : mm_Rn G d μ pc ls (t) g r ↔ mm_Rn G d μ (pc + 2) (ls) (.ref x :: t) (g) r :=
  mm_Rn_step (fun f => by unfold mm_stp; rw [h]; show mm_or (mm_ld ls i) _ = _; rw [hx]; rfl) r
theorem rn_aload_n {G : mm_G} {d μ pc a b w : Nat} {ls t : List Value} {g : mm_M} {i : Fin 4} {x : Nat} (h : mm_tb G μ pc = some (.aload_n i, a, b, w)) (hx : mm_ld ls i = .ref x) (r : mm_R) : mm_Rn G d μ pc ls (t) g r ↔ mm_Rn G d μ (pc + 1) (ls) (.ref x :: t) (g) r :=
  mm_Rn_step (fun f => by unfold mm_stp; rw [h]; show mm_or (mm_ld ls i) _ = _; rw [hx]; rfl) r
theorem rn_astore {G : mm_G} {d μ pc a b w : Nat} {ls t : List Value} {g : mm_M} {i : Nat} {x : Nat} (h : mm_tb G μ pc = some (.astore i, a, b, w)) (hc : mm_so ls i 1 = true) (r : mm_R) : mm_Rn G d μ pc ls (.ref x :: t) g r ↔ mm_Rn G d μ (pc + 2) (ls.set i (.ref x)) (t) (g) r :=
  mm_Rn_step (fun f => by unfold mm_stp; rw [h]; exact if_pos hc) r
theorem rn_astore_n {G : mm_G} {d μ pc a b w : Nat} {ls t : List Value} {g : mm_M} {i : Fin 4} {x : Nat} (h : mm_tb G μ pc = some (.astore_n i, a, b, w)) (hc : mm_so ls i 1 = true) (r : mm_R) : mm_Rn G d μ pc ls (.ref x :: t) g r ↔ mm_Rn G d μ (pc + 1) (ls.set i (.ref x)) (t) (g) r :=
  mm_Rn_step (fun f => by unfold mm_stp; rw [h]; exact if_pos hc) r
theorem rn_lload {G : mm_G} {d μ pc a b w : Nat} {ls t : List Value} {g : mm_M} {i : Nat} {x : Int64} (h : mm_tb G μ pc = some (.lload i, a, b, w)) (hx : mm_ld ls i = .long x) (r : mm_R) : mm_Rn G d μ pc ls (t) g r ↔ mm_Rn G d μ (pc + 2) (ls) (.long x :: t) (g) r :=
  mm_Rn_step (fun f => by unfold mm_stp; rw [h]; show mm_ol (mm_ld ls i) _ = _; rw [hx]; rfl) r
theorem rn_lload_n {G : mm_G} {d μ pc a b w : Nat} {ls t : List Value} {g : mm_M} {i : Fin 4} {x : Int64} (h : mm_tb G μ pc = some (.lload_n i, a, b, w)) (hx : mm_ld ls i = .long x) (r : mm_R) : mm_Rn G d μ pc ls (t) g r ↔ mm_Rn G d μ (pc + 1) (ls) (.long x :: t) (g) r :=
  mm_Rn_step (fun f => by unfold mm_stp; rw [h]; show mm_ol (mm_ld ls i) _ = _; rw [hx]; rfl) r
theorem rn_lstore {G : mm_G} {d μ pc a b w : Nat} {ls t : List Value} {g : mm_M} {i : Nat} {x : Int64} (h : mm_tb G μ pc = some (.lstore i, a, b, w)) (hc : mm_so ls i 2 = true) (r : mm_R) : mm_Rn G d μ pc ls (.long x :: t) g r ↔ mm_Rn G d μ (pc + 2) ((ls.set i (.long x)).set (i + 1) (.retAddr 0)) (t) (g) r :=
  mm_Rn_step (fun f => by unfold mm_stp; rw [h]; exact if_pos hc) r
theorem rn_lstore_n {G : mm_G} {d μ pc a b w : Nat} {ls t : List Value} {g : mm_M} {i : Fin 4} {x : Int64} (h : mm_tb G μ pc = some (.lstore_n i, a, b, w)) (hc : mm_so ls i 2 = true) (r : mm_R) : mm_Rn G d μ pc ls (.long x :: t) g r ↔ mm_Rn G d μ (pc + 1) ((ls.set i (.long x)).set (i + 1) (.retAddr 0)) (t) (g) r :=
  mm_Rn_step (fun f => by unfold mm_stp; rw [h]; exact if_pos hc) r
theorem rn_iinc {G : mm_G} {d μ pc a b w : Nat} {ls t : List Value} {g : mm_M} {i : Nat} {k : Int} {x : Int32} (h : mm_tb G μ pc = some (.iinc i k, a, b, w)) (hx : mm_ld ls i = .int x) (hc : mm_so ls i 1 = true) (r : mm_R) : mm_Rn G d μ pc ls (t) g r ↔ mm_Rn G d μ (pc + 3) (ls.set i (.int (x + Int32.ofInt k))) (t) (g) r :=
  mm_Rn_step (fun f => by unfold mm_stp; rw [h]; show mm_oi (mm_ld ls i) _ = _; rw [hx]; exact if_pos hc) r
theorem rn_iadd {G : mm_G} {d μ pc a b w : Nat} {ls t : List Value} {g : mm_M} {x y : Int32} (h : mm_tb G μ pc = some (.iadd, a, b, w)) (r : mm_R) : mm_Rn G d μ pc ls (.int y :: .int x :: t) g r ↔ mm_Rn G d μ (pc + 1) (ls) (.int (x + y) :: t) (g) r :=
  mm_Rn_step (fun f => by unfold mm_stp; rw [h] <;> rfl) r
theorem rn_isub {G : mm_G} {d μ pc a b w : Nat} {ls t : List Value} {g : mm_M} {x y : Int32} (h : mm_tb G μ pc = some (.isub, a, b, w)) (r : mm_R) : mm_Rn G d μ pc ls (.int y :: .int x :: t) g r ↔ mm_Rn G d μ (pc + 1) (ls) (.int (x - y) :: t) (g) r :=
  mm_Rn_step (fun f => by unfold mm_stp; rw [h] <;> rfl) r
theorem rn_imul {G : mm_G} {d μ pc a b w : Nat} {ls t : List Value} {g : mm_M} {x y : Int32} (h : mm_tb G μ pc = some (.imul, a, b, w)) (r : mm_R) : mm_Rn G d μ pc ls (.int y :: .int x :: t) g r ↔ mm_Rn G d μ (pc + 1) (ls) (.int (x * y) :: t) (g) r :=
  mm_Rn_step (fun f => by unfold mm_stp; rw [h] <;> rfl) r
theorem rn_iand {G : mm_G} {d μ pc a b w : Nat} {ls t : List Value} {g : mm_M} {x y : Int32} (h : mm_tb G μ pc = some (.iand, a, b, w)) (r : mm_R) : mm_Rn G d μ pc ls (.int y :: .int x :: t) g r ↔ mm_Rn G d μ (pc + 1) (ls) (.int (x &&& y) :: t) (g) r :=
  mm_Rn_step (fun f => by unfold mm_stp; rw [h] <;> rfl) r
theorem rn_ladd {G : mm_G} {d μ pc a b w : Nat} {ls t : List Value} {g : mm_M} {x y : Int64} (h : mm_tb G μ pc = some (.ladd, a, b, w)) (r : mm_R) : mm_Rn G d μ pc ls (.long y :: .long x :: t) g r ↔ mm_Rn G d μ (pc + 1) (ls) (.long (x + y) :: t) (g) r :=
  mm_Rn_step (fun f => by unfold mm_stp; rw [h] <;> rfl) r
theorem rn_lsub {G : mm_G} {d μ pc a b w : Nat} {ls t : List Value} {g : mm_M} {x y : Int64} (h : mm_tb G μ pc = some (.lsub, a, b, w)) (r : mm_R) : mm_Rn G d μ pc ls (.long y :: .long x :: t) g r ↔ mm_Rn G d μ (pc + 1) (ls) (.long (x - y) :: t) (g) r :=
  mm_Rn_step (fun f => by unfold mm_stp; rw [h] <;> rfl) r
theorem rn_lmul {G : mm_G} {d μ pc a b w : Nat} {ls t : List Value} {g : mm_M} {x y : Int64} (h : mm_tb G μ pc = some (.lmul, a, b, w)) (r : mm_R) : mm_Rn G d μ pc ls (.long y :: .long x :: t) g r ↔ mm_Rn G d μ (pc + 1) (ls) (.long (x * y) :: t) (g) r :=
  mm_Rn_step (fun f => by unfold mm_stp; rw [h] <;> rfl) r
theorem rn_ldiv {G : mm_G} {d μ pc a b w : Nat} {ls t : List Value} {g : mm_M} {x y : Int64} (h : mm_tb G μ pc = some (.ldiv, a, b, w)) (hc : ¬ y = 0) (r : mm_R) : mm_Rn G d μ pc ls (.long y :: .long x :: t) g r ↔ mm_Rn G d μ (pc + 1) (ls) (.long (x / y) :: t) (g) r :=
  mm_Rn_step (fun f => by unfold mm_stp; rw [h]; exact if_neg hc) r
theorem rn_lcmp {G : mm_G} {d μ pc a b w : Nat} {ls t : List Value} {g : mm_M} {x y : Int64} (h : mm_tb G μ pc = some (.lcmp, a, b, w)) (r : mm_R) : mm_Rn G d μ pc ls (.long y :: .long x :: t) g r ↔ mm_Rn G d μ (pc + 1) (ls) (.int (lg_cmp x y) :: t) (g) r :=
  mm_Rn_step (fun f => by unfold mm_stp; rw [h] <;> rfl) r
theorem rn_i2l {G : mm_G} {d μ pc a b w : Nat} {ls t : List Value} {g : mm_M} {x : Int32} (h : mm_tb G μ pc = some (.i2l, a, b, w)) (r : mm_R) : mm_Rn G d μ pc ls (.int x :: t) g r ↔ mm_Rn G d μ (pc + 1) (ls) (.long x.toInt64 :: t) (g) r :=
  mm_Rn_step (fun f => by unfold mm_stp; rw [h] <;> rfl) r
theorem rn_dup {G : mm_G} {d μ pc a b w : Nat} {ls t : List Value} {g : mm_M} {v : Value} (h : mm_tb G μ pc = some (.dup, a, b, w)) (hc : mm_c1 v = true) (r : mm_R) : mm_Rn G d μ pc ls (v :: t) g r ↔ mm_Rn G d μ (pc + 1) (ls) (v :: v :: t) (g) r :=
  mm_Rn_step (fun f => by unfold mm_stp; rw [h]; exact if_pos hc) r
theorem rn_dup2 {G : mm_G} {d μ pc a b w : Nat} {ls t : List Value} {g : mm_M} {v u : Value} (h : mm_tb G μ pc = some (.dup2, a, b, w)) (hc : mm_c1 v = true) (hc2 : mm_c1 u = true) (r : mm_R) : mm_Rn G d μ pc ls (v :: u :: t) g r ↔ mm_Rn G d μ (pc + 1) (ls) (v :: u :: v :: u :: t) (g) r :=
  mm_Rn_step (fun f => by unfold mm_stp; rw [h]; exact if_pos ⟨hc, hc2⟩) r
theorem rn_if_eq_t {G : mm_G} {d μ pc a b w : Nat} {ls t : List Value} {g : mm_M} {x : Int32} {o : Int} (h : mm_tb G μ pc = some (.ifCond .eq o, a, b, w)) (hc : x = 0) (r : mm_R) : mm_Rn G d μ pc ls (.int x :: t) g r ↔ mm_Rn G d μ (a) (ls) (t) (g) r :=
  mm_Rn_step (fun f => by unfold mm_stp; rw [h]; exact if_pos hc) r
theorem rn_if_eq_f {G : mm_G} {d μ pc a b w : Nat} {ls t : List Value} {g : mm_M} {x : Int32} {o : Int} (h : mm_tb G μ pc = some (.ifCond .eq o, a, b, w)) (hc : ¬ (x = 0)) (r : mm_R) : mm_Rn G d μ pc ls (.int x :: t) g r ↔ mm_Rn G d μ (pc + 3) (ls) (t) (g) r :=
  mm_Rn_step (fun f => by unfold mm_stp; rw [h]; exact if_neg hc) r
theorem rn_if_ne_t {G : mm_G} {d μ pc a b w : Nat} {ls t : List Value} {g : mm_M} {x : Int32} {o : Int} (h : mm_tb G μ pc = some (.ifCond .ne o, a, b, w)) (hc : ¬ x = 0) (r : mm_R) : mm_Rn G d μ pc ls (.int x :: t) g r ↔ mm_Rn G d μ (a) (ls) (t) (g) r :=
  mm_Rn_step (fun f => by unfold mm_stp; rw [h]; exact if_pos hc) r
theorem rn_if_ne_f {G : mm_G} {d μ pc a b w : Nat} {ls t : List Value} {g : mm_M} {x : Int32} {o : Int} (h : mm_tb G μ pc = some (.ifCond .ne o, a, b, w)) (hc : ¬ (¬ x = 0)) (r : mm_R) : mm_Rn G d μ pc ls (.int x :: t) g r ↔ mm_Rn G d μ (pc + 3) (ls) (t) (g) r :=
  mm_Rn_step (fun f => by unfold mm_stp; rw [h]; exact if_neg hc) r
theorem rn_if_lt_t {G : mm_G} {d μ pc a b w : Nat} {ls t : List Value} {g : mm_M} {x : Int32} {o : Int} (h : mm_tb G μ pc = some (.ifCond .lt o, a, b, w)) (hc : x < 0) (r : mm_R) : mm_Rn G d μ pc ls (.int x :: t) g r ↔ mm_Rn G d μ (a) (ls) (t) (g) r :=
  mm_Rn_step (fun f => by unfold mm_stp; rw [h]; exact if_pos hc) r
theorem rn_if_lt_f {G : mm_G} {d μ pc a b w : Nat} {ls t : List Value} {g : mm_M} {x : Int32} {o : Int} (h : mm_tb G μ pc = some (.ifCond .lt o, a, b, w)) (hc : ¬ (x < 0)) (r : mm_R) : mm_Rn G d μ pc ls (.int x :: t) g r ↔ mm_Rn G d μ (pc + 3) (ls) (t) (g) r :=
  mm_Rn_step (fun f => by unfold mm_stp; rw [h]; exact if_neg hc) r
theorem rn_if_ge_t {G : mm_G} {d μ pc a b w : Nat} {ls t : List Value} {g : mm_M} {x : Int32} {o : Int} (h : mm_tb G μ pc = some (.ifCond .ge o, a, b, w)) (hc : 0 ≤ x) (r : mm_R) : mm_Rn G d μ pc ls (.int x :: t) g r ↔ mm_Rn G d μ (a) (ls) (t) (g) r :=
  mm_Rn_step (fun f => by unfold mm_stp; rw [h]; exact if_pos hc) r
theorem rn_if_ge_f {G : mm_G} {d μ pc a b w : Nat} {ls t : List Value} {g : mm_M} {x : Int32} {o : Int} (h : mm_tb G μ pc = some (.ifCond .ge o, a, b, w)) (hc : ¬ (0 ≤ x)) (r : mm_R) : mm_Rn G d μ pc ls (.int x :: t) g r ↔ mm_Rn G d μ (pc + 3) (ls) (t) (g) r :=
  mm_Rn_step (fun f => by unfold mm_stp; rw [h]; exact if_neg hc) r
theorem rn_if_gt_t {G : mm_G} {d μ pc a b w : Nat} {ls t : List Value} {g : mm_M} {x : Int32} {o : Int} (h : mm_tb G μ pc = some (.ifCond .gt o, a, b, w)) (hc : 0 < x) (r : mm_R) : mm_Rn G d μ pc ls (.int x :: t) g r ↔ mm_Rn G d μ (a) (ls) (t) (g) r :=
  mm_Rn_step (fun f => by unfold mm_stp; rw [h]; exact if_pos hc) r
theorem rn_if_gt_f {G : mm_G} {d μ pc a b w : Nat} {ls t : List Value} {g : mm_M} {x : Int32} {o : Int} (h : mm_tb G μ pc = some (.ifCond .gt o, a, b, w)) (hc : ¬ (0 < x)) (r : mm_R) : mm_Rn G d μ pc ls (.int x :: t) g r ↔ mm_Rn G d μ (pc + 3) (ls) (t) (g) r :=
  mm_Rn_step (fun f => by unfold mm_stp; rw [h]; exact if_neg hc) r
theorem rn_if_le_t {G : mm_G} {d μ pc a b w : Nat} {ls t : List Value} {g : mm_M} {x : Int32} {o : Int} (h : mm_tb G μ pc = some (.ifCond .le o, a, b, w)) (hc : x ≤ 0) (r : mm_R) : mm_Rn G d μ pc ls (.int x :: t) g r ↔ mm_Rn G d μ (a) (ls) (t) (g) r :=
  mm_Rn_step (fun f => by unfold mm_stp; rw [h]; exact if_pos hc) r
theorem rn_if_le_f {G : mm_G} {d μ pc a b w : Nat} {ls t : List Value} {g : mm_M} {x : Int32} {o : Int} (h : mm_tb G μ pc = some (.ifCond .le o, a, b, w)) (hc : ¬ (x ≤ 0)) (r : mm_R) : mm_Rn G d μ pc ls (.int x :: t) g r ↔ mm_Rn G d μ (pc + 3) (ls) (t) (g) r :=
  mm_Rn_step (fun f => by unfold mm_stp; rw [h]; exact if_neg hc) r
theorem rn_icmp_eq_t {G : mm_G} {d μ pc a b w : Nat} {ls t : List Value} {g : mm_M} {x y : Int32} {o : Int} (h : mm_tb G μ pc = some (.if_icmp .eq o, a, b, w)) (hc : x = y) (r : mm_R) : mm_Rn G d μ pc ls (.int y :: .int x :: t) g r ↔ mm_Rn G d μ (a) (ls) (t) (g) r :=
  mm_Rn_step (fun f => by unfold mm_stp; rw [h]; exact if_pos hc) r
theorem rn_icmp_eq_f {G : mm_G} {d μ pc a b w : Nat} {ls t : List Value} {g : mm_M} {x y : Int32} {o : Int} (h : mm_tb G μ pc = some (.if_icmp .eq o, a, b, w)) (hc : ¬ (x = y)) (r : mm_R) : mm_Rn G d μ pc ls (.int y :: .int x :: t) g r ↔ mm_Rn G d μ (pc + 3) (ls) (t) (g) r :=
  mm_Rn_step (fun f => by unfold mm_stp; rw [h]; exact if_neg hc) r
theorem rn_icmp_ne_t {G : mm_G} {d μ pc a b w : Nat} {ls t : List Value} {g : mm_M} {x y : Int32} {o : Int} (h : mm_tb G μ pc = some (.if_icmp .ne o, a, b, w)) (hc : ¬ x = y) (r : mm_R) : mm_Rn G d μ pc ls (.int y :: .int x :: t) g r ↔ mm_Rn G d μ (a) (ls) (t) (g) r :=
  mm_Rn_step (fun f => by unfold mm_stp; rw [h]; exact if_pos hc) r
theorem rn_icmp_ne_f {G : mm_G} {d μ pc a b w : Nat} {ls t : List Value} {g : mm_M} {x y : Int32} {o : Int} (h : mm_tb G μ pc = some (.if_icmp .ne o, a, b, w)) (hc : ¬ (¬ x = y)) (r : mm_R) : mm_Rn G d μ pc ls (.int y :: .int x :: t) g r ↔ mm_Rn G d μ (pc + 3) (ls) (t) (g) r :=
  mm_Rn_step (fun f => by unfold mm_stp; rw [h]; exact if_neg hc) r
theorem rn_icmp_lt_t {G : mm_G} {d μ pc a b w : Nat} {ls t : List Value} {g : mm_M} {x y : Int32} {o : Int} (h : mm_tb G μ pc = some (.if_icmp .lt o, a, b, w)) (hc : x < y) (r : mm_R) : mm_Rn G d μ pc ls (.int y :: .int x :: t) g r ↔ mm_Rn G d μ (a) (ls) (t) (g) r :=
  mm_Rn_step (fun f => by unfold mm_stp; rw [h]; exact if_pos hc) r
theorem rn_icmp_lt_f {G : mm_G} {d μ pc a b w : Nat} {ls t : List Value} {g : mm_M} {x y : Int32} {o : Int} (h : mm_tb G μ pc = some (.if_icmp .lt o, a, b, w)) (hc : ¬ (x < y)) (r : mm_R) : mm_Rn G d μ pc ls (.int y :: .int x :: t) g r ↔ mm_Rn G d μ (pc + 3) (ls) (t) (g) r :=
  mm_Rn_step (fun f => by unfold mm_stp; rw [h]; exact if_neg hc) r
theorem rn_icmp_ge_t {G : mm_G} {d μ pc a b w : Nat} {ls t : List Value} {g : mm_M} {x y : Int32} {o : Int} (h : mm_tb G μ pc = some (.if_icmp .ge o, a, b, w)) (hc : y ≤ x) (r : mm_R) : mm_Rn G d μ pc ls (.int y :: .int x :: t) g r ↔ mm_Rn G d μ (a) (ls) (t) (g) r :=
  mm_Rn_step (fun f => by unfold mm_stp; rw [h]; exact if_pos hc) r
theorem rn_icmp_ge_f {G : mm_G} {d μ pc a b w : Nat} {ls t : List Value} {g : mm_M} {x y : Int32} {o : Int} (h : mm_tb G μ pc = some (.if_icmp .ge o, a, b, w)) (hc : ¬ (y ≤ x)) (r : mm_R) : mm_Rn G d μ pc ls (.int y :: .int x :: t) g r ↔ mm_Rn G d μ (pc + 3) (ls) (t) (g) r :=
  mm_Rn_step (fun f => by unfold mm_stp; rw [h]; exact if_neg hc) r
theorem rn_icmp_gt_t {G : mm_G} {d μ pc a b w : Nat} {ls t : List Value} {g : mm_M} {x y : Int32} {o : Int} (h : mm_tb G μ pc = some (.if_icmp .gt o, a, b, w)) (hc : y < x) (r : mm_R) : mm_Rn G d μ pc ls (.int y :: .int x :: t) g r ↔ mm_Rn G d μ (a) (ls) (t) (g) r :=
  mm_Rn_step (fun f => by unfold mm_stp; rw [h]; exact if_pos hc) r
theorem rn_icmp_gt_f {G : mm_G} {d μ pc a b w : Nat} {ls t : List Value} {g : mm_M} {x y : Int32} {o : Int} (h : mm_tb G μ pc = some (.if_icmp .gt o, a, b, w)) (hc : ¬ (y < x)) (r : mm_R) : mm_Rn G d μ pc ls (.int y :: .int x :: t) g r ↔ mm_Rn G d μ (pc + 3) (ls) (t) (g) r :=
  mm_Rn_step (fun f => by unfold mm_stp; rw [h]; exact if_neg hc) r
theorem rn_icmp_le_t {G : mm_G} {d μ pc a b w : Nat} {ls t : List Value} {g : mm_M} {x y : Int32} {o : Int} (h : mm_tb G μ pc = some (.if_icmp .le o, a, b, w)) (hc : x ≤ y) (r : mm_R) : mm_Rn G d μ pc ls (.int y :: .int x :: t) g r ↔ mm_Rn G d μ (a) (ls) (t) (g) r :=
  mm_Rn_step (fun f => by unfold mm_stp; rw [h]; exact if_pos hc) r
theorem rn_icmp_le_f {G : mm_G} {d μ pc a b w : Nat} {ls t : List Value} {g : mm_M} {x y : Int32} {o : Int} (h : mm_tb G μ pc = some (.if_icmp .le o, a, b, w)) (hc : ¬ (x ≤ y)) (r : mm_R) : mm_Rn G d μ pc ls (.int y :: .int x :: t) g r ↔ mm_Rn G d μ (pc + 3) (ls) (t) (g) r :=
  mm_Rn_step (fun f => by unfold mm_stp; rw [h]; exact if_neg hc) r
theorem rn_goto {G : mm_G} {d μ pc a b w : Nat} {ls t : List Value} {g : mm_M} {o : Int} (h : mm_tb G μ pc = some (.goto o, a, b, w)) (r : mm_R) : mm_Rn G d μ pc ls (t) g r ↔ mm_Rn G d μ (a) (ls) (t) (g) r :=
  mm_Rn_step (fun f => by unfold mm_stp; rw [h] <;> rfl) r
theorem rn_ts {G : mm_G} {d μ pc a b w : Nat} {ls t : List Value} {g : mm_M} {x : Int32} {df lo hi off : Int} {offs : Array Int} {tg : Nat} (h : mm_tb G μ pc = some (.tableswitch df lo hi offs, a, b, w)) (ho : (if x.toInt < lo ∨ hi < x.toInt then some df else offs[(x.toInt - lo).toNat]?) = some off) (ht : (pc : Int) + off = (tg : Int)) (r : mm_R) : mm_Rn G d μ pc ls (.int x :: t) g r ↔ mm_Rn G d μ (tg) (ls) (t) (g) r :=
  mm_Rn_step (fun f => by unfold mm_stp; rw [h]; refine (show mm_go (if x.toInt < lo ∨ hi < x.toInt then some df else offs[(x.toInt - lo).toNat]?) pc (fun tt => f d μ tt ls t g) = _ from ?_); rw [ho]; refine (if_pos (by omega)).trans ?_; rw [ht]; rfl) r
theorem rn_getfield {G : mm_G} {d μ pc a b w : Nat} {ls t : List Value} {g : mm_M} {i x : Nat} (h : mm_tb G μ pc = some (.getfield i, a, b, w)) (hT : g.1 x = some (a, mm_sl G a)) (r : mm_R) : mm_Rn G d μ pc ls (.ref x :: t) g r ↔ mm_Rn G d μ (pc + 3) (ls) (g.2.1 x b :: t) (g) r :=
  mm_Rn_step (fun f => by unfold mm_stp; rw [h]; exact if_pos hT) r
theorem rn_putfield {G : mm_G} {d μ pc a b w : Nat} {ls t : List Value} {g : mm_M} {i x : Nat} {v : Value} (h : mm_tb G μ pc = some (.putfield i, a, b, w)) (hT : g.1 x = some (a, mm_sl G a)) (hf : fits (mm_ft G a b) v = true) (r : mm_R) : mm_Rn G d μ pc ls (v :: .ref x :: t) g r ↔ mm_Rn G d μ (pc + 3) (ls) (t) (mm_wr g x b v) r :=
  mm_Rn_step (fun f => by unfold mm_stp; rw [h]; exact if_pos ⟨hT, hf⟩) r
theorem rn_iaload {G : mm_G} {d μ pc a b w : Nat} {ls t : List Value} {g : mm_M} {x : Nat} {j : Int32} (h : mm_tb G μ pc = some (.iaload, a, b, w)) (hc : mm_in (g.1 x) 100 101 j = true) (r : mm_R) : mm_Rn G d μ pc ls (.int j :: .ref x :: t) g r ↔ mm_Rn G d μ (pc + 1) (ls) (g.2.1 x j.toNatClampNeg :: t) (g) r :=
  mm_Rn_step (fun f => by unfold mm_stp; rw [h]; exact if_pos hc) r
theorem rn_aaload {G : mm_G} {d μ pc a b w : Nat} {ls t : List Value} {g : mm_M} {x : Nat} {j : Int32} (h : mm_tb G μ pc = some (.aaload, a, b, w)) (hc : mm_in (g.1 x) 102 103 j = true) (r : mm_R) : mm_Rn G d μ pc ls (.int j :: .ref x :: t) g r ↔ mm_Rn G d μ (pc + 1) (ls) (g.2.1 x j.toNatClampNeg :: t) (g) r :=
  mm_Rn_step (fun f => by unfold mm_stp; rw [h]; exact if_pos hc) r
theorem rn_iastore {G : mm_G} {d μ pc a b w : Nat} {ls t : List Value} {g : mm_M} {x : Nat} {j v : Int32} (h : mm_tb G μ pc = some (.iastore, a, b, w)) (hc : mm_in (g.1 x) 100 100 j = true) (r : mm_R) : mm_Rn G d μ pc ls (.int v :: .int j :: .ref x :: t) g r ↔ mm_Rn G d μ (pc + 1) (ls) (t) (mm_wr g x j.toNatClampNeg (.int v)) r :=
  mm_Rn_step (fun f => by unfold mm_stp; rw [h]; exact if_pos hc) r
theorem rn_aastore {G : mm_G} {d μ pc a b w : Nat} {ls t : List Value} {g : mm_M} {x v : Nat} {j : Int32} (h : mm_tb G μ pc = some (.aastore, a, b, w)) (hc : mm_in (g.1 x) a a j = true) (hv : g.1 v = some (b, mm_sl G b)) (r : mm_R) : mm_Rn G d μ pc ls (.ref v :: .int j :: .ref x :: t) g r ↔ mm_Rn G d μ (pc + 1) (ls) (t) (mm_wr g x j.toNatClampNeg (.ref v)) r :=
  mm_Rn_step (fun f => by unfold mm_stp; rw [h]; exact if_pos ⟨hc, hv⟩) r
theorem rn_alen {G : mm_G} {d μ pc a b w : Nat} {ls t : List Value} {g : mm_M} {x kd len : Nat} (h : mm_tb G μ pc = some (.arraylength, a, b, w)) (hT : g.1 x = some (kd, len)) (h1 : 100 ≤ kd) (h2 : kd ≤ 103) (r : mm_R) : mm_Rn G d μ pc ls (.ref x :: t) g r ↔ mm_Rn G d μ (pc + 1) (ls) (.int (Int32.ofNat len) :: t) (g) r :=
  mm_Rn_step (fun f => by unfold mm_stp; rw [h]; show mm_ln (g.1 x) _ = _; rw [hT]; exact if_pos ⟨h1, h2⟩) r
theorem rn_new {G : mm_G} {d μ pc a b w : Nat} {ls t : List Value} {g : mm_M} {i x : Nat} (h : mm_tb G μ pc = some (.new i, a, b, w)) (hx : mm_pk G μ pc ls g.2.1 = x) (hT : g.1 x = none) (r : mm_R) : mm_Rn G d μ pc ls (t) g r ↔ mm_Rn G d μ (pc + 3) (ls) (.ref x :: t) (mm_al g x a (mm_sl G a) fun k => defaultValue (mm_ft G a k)) r :=
  mm_Rn_step (fun f => by unfold mm_stp; rw [h]; subst hx; exact if_pos hT) r
theorem rn_newarray {G : mm_G} {d μ pc a b w : Nat} {ls t : List Value} {g : mm_M} {ty : ArrayType} {x : Nat} {n : Int32} (h : mm_tb G μ pc = some (.newarray ty, a, b, w)) (hx : mm_pk G μ pc ls g.2.1 = x) (hT : g.1 x = none) (h0 : 0 ≤ n) (h1 : n.toNatClampNeg ≤ 1000) (r : mm_R) : mm_Rn G d μ pc ls (.int n :: t) g r ↔ mm_Rn G d μ (pc + 2) (ls) (.ref x :: t) (mm_al g x 100 n.toNatClampNeg fun _ => .int 0) r :=
  mm_Rn_step (fun f => by unfold mm_stp; rw [h]; subst hx; exact if_pos ⟨hT, h0, h1⟩) r
theorem rn_anewarray {G : mm_G} {d μ pc a b w : Nat} {ls t : List Value} {g : mm_M} {i x : Nat} {n : Int32} (h : mm_tb G μ pc = some (.anewarray i, a, b, w)) (hx : mm_pk G μ pc ls g.2.1 = x) (hT : g.1 x = none) (h0 : 0 ≤ n) (h1 : n.toNatClampNeg ≤ 1000) (r : mm_R) : mm_Rn G d μ pc ls (.int n :: t) g r ↔ mm_Rn G d μ (pc + 3) (ls) (.ref x :: t) (mm_al g x a n.toNatClampNeg fun _ => .null) r :=
  mm_Rn_step (fun f => by unfold mm_stp; rw [h]; subst hx; exact if_pos ⟨hT, h0, h1⟩) r
theorem rn_max {G : mm_G} {d μ pc b w i : Nat} {ls t : List Value} {g : mm_M} {x y : Int32} (h : mm_tb G μ pc = some (.invokestatic i, 999, b, w)) (hl : t.length ≤ 4) (r : mm_R) : mm_Rn G (d + 1) μ pc ls (.int y :: .int x :: t) g r ↔ mm_Rn G (d + 1) μ (pc + 3) ls (.int (if x < y then y else x) :: t) g r :=
  mm_Rn_step (fun f => by unfold mm_stp; rw [h]; exact (if_pos rfl).trans ((if_neg (by omega)).trans (if_pos hl))) r
theorem rn_oinit {G : mm_G} {d μ pc b w i x : Nat} {ls t : List Value} {g : mm_M} (h : mm_tb G μ pc = some (.invokespecial i, 998, b, w)) (hl : t.length ≤ 4) (r : mm_R) : mm_Rn G (d + 1) μ pc ls (.ref x :: t) g r ↔ mm_Rn G (d + 1) μ (pc + 3) ls t g r :=
  mm_Rn_step (fun f => by unfold mm_stp; rw [h]; exact (if_pos rfl).trans ((if_neg (by omega)).trans (if_pos hl))) r
theorem rn_stat {G : mm_G} {d μ pc a n w i : Nat} {ls st : List Value} {g : mm_M} {q : mm_R} (h : mm_tb G μ pc = some (.invokestatic i, a, n, w)) (ha : a ≠ 999) (hc : n ≤ st.length ∧ (st.drop n).length ≤ 4 ∧ (st.take n).all mm_ar = true)
    (hq : mm_Rn G d a 0 ((st.take n).reverse ++ List.replicate (mm_mx G a - n) (.retAddr 0)) [] (g.1, g.2.1, 0, 0) q) (r : mm_R) : mm_Rn G (d + 1) μ pc ls st g r ↔ mm_Rn G (d + 1) μ (pc + 3) ls (q.1.toList ++ st.drop n) (q.2.1, q.2.2.1, g.2.2.1 + q.2.2.2.1, g.2.2.2 + q.2.2.2.2) r :=
  mm_Rn_call (fun f => by unfold mm_stp; rw [h]; exact if_neg ha) hc hq
theorem rn_virt {G : mm_G} {d μ pc a n w i : Nat} {ls st : List Value} {g : mm_M} {q : mm_R} (h : mm_tb G μ pc = some (.invokevirtual i, a, n, w)) (hv : mm_rv G a n st g.1 = true) (hc : n ≤ st.length ∧ (st.drop n).length ≤ 4 ∧ (st.take n).all mm_ar = true)
    (hq : mm_Rn G d a 0 ((st.take n).reverse ++ List.replicate (mm_mx G a - n) (.retAddr 0)) [] (g.1, g.2.1, 0, 0) q) (r : mm_R) : mm_Rn G (d + 1) μ pc ls st g r ↔ mm_Rn G (d + 1) μ (pc + 3) ls (q.1.toList ++ st.drop n) (q.2.1, q.2.2.1, g.2.2.1 + q.2.2.2.1, g.2.2.2 + q.2.2.2.2) r :=
  mm_Rn_call (fun f => by unfold mm_stp; rw [h]; exact if_pos hv) hc hq
theorem rn_spec {G : mm_G} {d μ pc a n w i : Nat} {ls st : List Value} {g : mm_M} {q : mm_R} (h : mm_tb G μ pc = some (.invokespecial i, a, n, w)) (ha : a ≠ 998) (hf : mm_rf n st = true) (hc : n ≤ st.length ∧ (st.drop n).length ≤ 4 ∧ (st.take n).all mm_ar = true)
    (hq : mm_Rn G d a 0 ((st.take n).reverse ++ List.replicate (mm_mx G a - n) (.retAddr 0)) [] (g.1, g.2.1, 0, 0) q) (r : mm_R) : mm_Rn G (d + 1) μ pc ls st g r ↔ mm_Rn G (d + 1) μ (pc + 3) ls (q.1.toList ++ st.drop n) (q.2.1, q.2.2.1, g.2.2.1 + q.2.2.2.1, g.2.2.2 + q.2.2.2.2) r :=
  mm_Rn_call (fun f => by unfold mm_stp; rw [h]; exact (if_neg ha).trans (if_pos hf)) hc hq
theorem rn_ireturn {G : mm_G} {d μ pc a b w : Nat} {ls : List Value} {g : mm_M} {x : Int32} (h : mm_tb G μ pc = some (.ireturn, a, b, w)) (hb : mm_rb G μ = 1 ∨ mm_rb G μ = 2 ∧ (x = 0 ∨ x = 1)) : mm_Rn G d μ pc ls [.int x] g (some (.int x), g) :=
  mm_Rn_ret (fun f => by unfold mm_stp; rw [h]; exact if_pos ⟨rfl, hb⟩)
theorem rn_return {G : mm_G} {d μ pc a b w : Nat} {ls : List Value} {g : mm_M} (h : mm_tb G μ pc = some (.return_, a, b, w)) (hb : mm_rb G μ = 0) : mm_Rn G d μ pc ls [] g (none, g) :=
  mm_Rn_ret (fun f => by unfold mm_stp; rw [h]; exact if_pos ⟨rfl, hb⟩)
theorem rn_if_eq {G : mm_G} {d μ pc a b w : Nat} {ls t : List Value} {g : mm_M} {x : Int32} {o : Int} (h : mm_tb G μ pc = some (.ifCond .eq o, a, b, w)) (r : mm_R) : mm_Rn G d μ pc ls (.int x :: t) g r ↔ if x = 0 then mm_Rn G d μ (a) ls t g r else mm_Rn G d μ (pc + 3) ls t g r := by
  by_cases hc : x = 0
  · rw [if_pos hc]; exact rn_if_eq_t h hc r
  · rw [if_neg hc]; exact rn_if_eq_f h hc r
theorem rn_if_ne {G : mm_G} {d μ pc a b w : Nat} {ls t : List Value} {g : mm_M} {x : Int32} {o : Int} (h : mm_tb G μ pc = some (.ifCond .ne o, a, b, w)) (r : mm_R) : mm_Rn G d μ pc ls (.int x :: t) g r ↔ if x = 0 then mm_Rn G d μ (pc + 3) ls t g r else mm_Rn G d μ (a) ls t g r := by
  by_cases hc : x = 0
  · rw [if_pos hc]; exact rn_if_ne_f h (fun z => z hc) r
  · rw [if_neg hc]; exact rn_if_ne_t h hc r
theorem rn_if_lt {G : mm_G} {d μ pc a b w : Nat} {ls t : List Value} {g : mm_M} {x : Int32} {o : Int} (h : mm_tb G μ pc = some (.ifCond .lt o, a, b, w)) (r : mm_R) : mm_Rn G d μ pc ls (.int x :: t) g r ↔ if x < 0 then mm_Rn G d μ (a) ls t g r else mm_Rn G d μ (pc + 3) ls t g r := by
  by_cases hc : x < 0
  · rw [if_pos hc]; exact rn_if_lt_t h hc r
  · rw [if_neg hc]; exact rn_if_lt_f h hc r
theorem rn_if_ge {G : mm_G} {d μ pc a b w : Nat} {ls t : List Value} {g : mm_M} {x : Int32} {o : Int} (h : mm_tb G μ pc = some (.ifCond .ge o, a, b, w)) (r : mm_R) : mm_Rn G d μ pc ls (.int x :: t) g r ↔ if 0 ≤ x then mm_Rn G d μ (a) ls t g r else mm_Rn G d μ (pc + 3) ls t g r := by
  by_cases hc : 0 ≤ x
  · rw [if_pos hc]; exact rn_if_ge_t h hc r
  · rw [if_neg hc]; exact rn_if_ge_f h hc r
theorem rn_if_gt {G : mm_G} {d μ pc a b w : Nat} {ls t : List Value} {g : mm_M} {x : Int32} {o : Int} (h : mm_tb G μ pc = some (.ifCond .gt o, a, b, w)) (r : mm_R) : mm_Rn G d μ pc ls (.int x :: t) g r ↔ if 0 < x then mm_Rn G d μ (a) ls t g r else mm_Rn G d μ (pc + 3) ls t g r := by
  by_cases hc : 0 < x
  · rw [if_pos hc]; exact rn_if_gt_t h hc r
  · rw [if_neg hc]; exact rn_if_gt_f h hc r
theorem rn_if_le {G : mm_G} {d μ pc a b w : Nat} {ls t : List Value} {g : mm_M} {x : Int32} {o : Int} (h : mm_tb G μ pc = some (.ifCond .le o, a, b, w)) (r : mm_R) : mm_Rn G d μ pc ls (.int x :: t) g r ↔ if x ≤ 0 then mm_Rn G d μ (a) ls t g r else mm_Rn G d μ (pc + 3) ls t g r := by
  by_cases hc : x ≤ 0
  · rw [if_pos hc]; exact rn_if_le_t h hc r
  · rw [if_neg hc]; exact rn_if_le_f h hc r
theorem rn_icmp_eq {G : mm_G} {d μ pc a b w : Nat} {ls t : List Value} {g : mm_M} {x y : Int32} {o : Int} (h : mm_tb G μ pc = some (.if_icmp .eq o, a, b, w)) (r : mm_R) : mm_Rn G d μ pc ls (.int y :: .int x :: t) g r ↔ if x = y then mm_Rn G d μ (a) ls t g r else mm_Rn G d μ (pc + 3) ls t g r := by
  by_cases hc : x = y
  · rw [if_pos hc]; exact rn_icmp_eq_t h hc r
  · rw [if_neg hc]; exact rn_icmp_eq_f h hc r
theorem rn_icmp_ne {G : mm_G} {d μ pc a b w : Nat} {ls t : List Value} {g : mm_M} {x y : Int32} {o : Int} (h : mm_tb G μ pc = some (.if_icmp .ne o, a, b, w)) (r : mm_R) : mm_Rn G d μ pc ls (.int y :: .int x :: t) g r ↔ if x = y then mm_Rn G d μ (pc + 3) ls t g r else mm_Rn G d μ (a) ls t g r := by
  by_cases hc : x = y
  · rw [if_pos hc]; exact rn_icmp_ne_f h (fun z => z hc) r
  · rw [if_neg hc]; exact rn_icmp_ne_t h hc r
theorem rn_icmp_lt {G : mm_G} {d μ pc a b w : Nat} {ls t : List Value} {g : mm_M} {x y : Int32} {o : Int} (h : mm_tb G μ pc = some (.if_icmp .lt o, a, b, w)) (r : mm_R) : mm_Rn G d μ pc ls (.int y :: .int x :: t) g r ↔ if x < y then mm_Rn G d μ (a) ls t g r else mm_Rn G d μ (pc + 3) ls t g r := by
  by_cases hc : x < y
  · rw [if_pos hc]; exact rn_icmp_lt_t h hc r
  · rw [if_neg hc]; exact rn_icmp_lt_f h hc r
theorem rn_icmp_ge {G : mm_G} {d μ pc a b w : Nat} {ls t : List Value} {g : mm_M} {x y : Int32} {o : Int} (h : mm_tb G μ pc = some (.if_icmp .ge o, a, b, w)) (r : mm_R) : mm_Rn G d μ pc ls (.int y :: .int x :: t) g r ↔ if y ≤ x then mm_Rn G d μ (a) ls t g r else mm_Rn G d μ (pc + 3) ls t g r := by
  by_cases hc : y ≤ x
  · rw [if_pos hc]; exact rn_icmp_ge_t h hc r
  · rw [if_neg hc]; exact rn_icmp_ge_f h hc r
theorem rn_icmp_gt {G : mm_G} {d μ pc a b w : Nat} {ls t : List Value} {g : mm_M} {x y : Int32} {o : Int} (h : mm_tb G μ pc = some (.if_icmp .gt o, a, b, w)) (r : mm_R) : mm_Rn G d μ pc ls (.int y :: .int x :: t) g r ↔ if y < x then mm_Rn G d μ (a) ls t g r else mm_Rn G d μ (pc + 3) ls t g r := by
  by_cases hc : y < x
  · rw [if_pos hc]; exact rn_icmp_gt_t h hc r
  · rw [if_neg hc]; exact rn_icmp_gt_f h hc r
theorem rn_icmp_le {G : mm_G} {d μ pc a b w : Nat} {ls t : List Value} {g : mm_M} {x y : Int32} {o : Int} (h : mm_tb G μ pc = some (.if_icmp .le o, a, b, w)) (r : mm_R) : mm_Rn G d μ pc ls (.int y :: .int x :: t) g r ↔ if x ≤ y then mm_Rn G d μ (a) ls t g r else mm_Rn G d μ (pc + 3) ls t g r := by
  by_cases hc : x ≤ y
  · rw [if_pos hc]; exact rn_icmp_le_t h hc r
  · rw [if_neg hc]; exact rn_icmp_le_f h hc r
theorem rn_ireturn_iff {G : mm_G} {d μ pc a b w : Nat} {ls : List Value} {g : mm_M} {x : Int32} (h : mm_tb G μ pc = some (.ireturn, a, b, w)) (hb : mm_rb G μ = 1 ∨ mm_rb G μ = 2 ∧ (x = 0 ∨ x = 1)) (r : mm_R) : mm_Rn G d μ pc ls [.int x] g r ↔ r = (some (.int x), g) :=
  ⟨fun hr => mm_det hr (rn_ireturn h hb), fun e => e ▸ rn_ireturn h hb⟩
theorem rn_return_iff {G : mm_G} {d μ pc a b w : Nat} {ls : List Value} {g : mm_M} (h : mm_tb G μ pc = some (.return_, a, b, w)) (hb : mm_rb G μ = 0) (r : mm_R) : mm_Rn G d μ pc ls [] g r ↔ r = (none, g) :=
  ⟨fun hr => mm_det hr (rn_return h hb), fun e => e ▸ rn_return h hb⟩
theorem mm_so_of {ls : List Value} {i n : Nat} {v : Value} (h1 : i + n ≤ ls.length) (h2 : mm_ld ls (i - 1) = v) (hv : mm_c1 v = true) : mm_so ls i n = true := by
  unfold mm_so
  rw [h2, decide_eq_true h1, show decide (v.category = 1) = true from hv, Bool.or_true, Bool.and_true]
