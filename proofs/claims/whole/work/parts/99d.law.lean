/-! the law's loop -/
section LP
variable {M : sp_I} {d c n m q l : Nat} {s : List Int}
/-- one call -/
theorem lw_call (h : lw_in s m M) (hm : m ≤ 512) (hl : M 30 0 = l) (hl2 : l ≤ 2560) (hq : q + 5 ≤ l) : lw_go s m d M c n q 18 := by
  have hr := h.1
  have hq' : (q : Int) + 5 ≤ M 30 0 := by omega
  have hl' : M 30 0 ≤ 100000 := by omega
  have hv := io_m31 (Int32.ofInt (M 7 q))
  generalize hw : (Int32.ofInt (M 7 q)).toBitVec.toNat % 32 = w at hv
  have hw32 : w < 32 := by rw [← hw]; exact Nat.mod_lt _ (by decide)
  have hx : (Int32.ofInt (w : Int)).toInt = w := io_toInt (by omega)
  have ht : ∀ r : mm_R, (mm_Rn pg_G (d + 7) 104 18 [.ref 7, .ref 0, .ref 8, io_v q] [] (sp_me M c n) r ↔ mm_Rn pg_G (d + 7) 104 32 [.ref 7, .ref 0, .ref 8, io_v q] [.int (Int32.ofInt (w : Int))] (sp_me M c n) r) := fun r => by rw [lw_next hl hl2 hq, hv]
  have go : ∀ pc, (∀ r : mm_R, (mm_Rn pg_G (d + 7) 104 32 [.ref 7, .ref 0, .ref 8, io_v q] [.int (Int32.ofInt (w : Int))] (sp_me M c n) r ↔ mm_Rn pg_G (d + 7) 104 pc [.ref 7, .ref 0, .ref 8, io_v q] [] (sp_me M c n) r)) → lw_go s m d M c n q pc → lw_go s m d M c n q 18 := by
    rintro pc e ⟨E, c', n', a1, a2, a3, a4⟩
    exact ⟨E, c', n', a1, a2, a3, fun r => by rw [ht, e, a4]⟩
  have st : ∀ pc, (∀ r : mm_R, (mm_Rn pg_G (d + 7) 104 pc [.ref 7, .ref 0, .ref 8, io_v q] [] (sp_me M c n) r ↔ mm_Rn pg_G (d + 7) 104 601 [.ref 7, .ref 0, .ref 8, io_v q] [] (sp_me M c n) r)) → lw_go s m d M c n q pc := fun pc e => ⟨M, c, n, lw_same h, by omega, by omega, e⟩
  by_cases z : 18 < w
  · exact go 601 (fun r => st_104_32_d (by omega)) (st 601 (fun r => Iff.rfl))
  rcases (by omega : w = 0 ∨ w = 1 ∨ w = 2 ∨ w = 3 ∨ w = 4 ∨ w = 5 ∨ w = 6 ∨ w = 7 ∨ w = 8 ∨ w = 9 ∨ w = 10 ∨ w = 11 ∨ w = 12 ∨ w = 13 ∨ w = 14 ∨ w = 15 ∨ w = 16 ∨ w = 17 ∨ w = 18) with e | e | e | e | e | e | e | e | e | e | e | e | e | e | e | e | e | e | e
  · exact go 124 (fun r => st_104_32_0 (by omega)) (lw_c0 h hq' hl')
  · exact go 167 (fun r => st_104_32_1 (by omega)) (lw_c1 h hq' hl')
  · exact go 220 (fun r => st_104_32_2 (by omega)) (lw_c2 h hq' hl')
  · exact go 253 (fun r => st_104_32_3 (by omega)) (lw_c3 h hq' hl')
  · exact go 266 (fun r => st_104_32_4 (by omega)) (st 266 (fun r => lw_c4 (d := d + 2) hr))
  · exact go 279 (fun r => st_104_32_5 (by omega)) (st 279 (fun r => lw_c5 (d := d + 5) hr hq' hl'))
  · exact go 302 (fun r => st_104_32_6 (by omega)) (lw_c6 h hm hq' hl')
  · exact go 335 (fun r => st_104_32_7 (by omega)) (lw_c7 h hm hq' hl')
  · exact go 358 (fun r => st_104_32_8 (by omega)) (lw_c8 h hm hq' hl')
  · exact go 381 (fun r => st_104_32_9 (by omega)) (st 381 (fun r => lw_c9 (d := d + 6) hr))
  · exact go 394 (fun r => st_104_32_10 (by omega)) (st 394 (fun r => lw_c10 (d := d + 5) hr hq' hl'))
  · exact go 417 (fun r => st_104_32_11 (by omega)) (st 417 (fun r => lw_c11 (d := d + 3) hr hq' hl'))
  · exact go 440 (fun r => st_104_32_12 (by omega)) (st 440 (fun r => lw_c12 (d := d + 3) hr hq' hl'))
  · exact go 463 (fun r => st_104_32_13 (by omega)) (st 463 (fun r => lw_c13 (d := d + 2) hr))
  · exact go 476 (fun r => st_104_32_14 (by omega)) (st 476 (fun r => lw_c14 (d := d + 5) hr hq' hl'))
  · exact go 509 (fun r => st_104_32_15 (by omega)) (st 509 (fun r => lw_c15 (d := d + 5) hr hq' hl'))
  · exact go 532 (fun r => st_104_32_16 (by omega)) (st 532 (fun r => lw_c16 (d := d + 5) hr hq' hl'))
  · exact go 555 (fun r => st_104_32_17 (by omega)) (st 555 (fun r => lw_c17 (d := d + 3) hr hq' hl'))
  · exact go 578 (fun r => st_104_32_18 (by omega)) (st 578 (fun r => lw_c18 (d := d + 4) hr hq' hl'))
end LP
theorem lw_loop {s : List Int} {d : Nat} (hl2 : s.length ≤ 2560) : ∀ (k m : Nat) (M : sp_I) (c n : Nat), lw_in s m M → 5 * m ≤ s.length → s.length ≤ 5 * m + 5 * k → ∃ (E : sp_I) (c' n' : Nat), c' ≤ c + 4 * k ∧ n' ≤ n + 27 * k ∧ mm_Rn pg_G (d + 7) 104 18 [.ref 7, .ref 0, .ref 8, io_v (5 * m : Nat)] [] (sp_me M c n) (some (io_v 1), sp_me E c' n')
  | 0, m, M, c, n, h, h1, h2 => ⟨M, c, n, by omega, by omega, lw_end h.2.2.2.2.2 hl2 (by omega) (by omega)⟩
  | k + 1, m, M, c, n, h, h1, h2 => by
    by_cases z : s.length < 5 * m + 5
    · exact ⟨M, c, n, by omega, by omega, lw_end h.2.2.2.2.2 hl2 z (by omega)⟩
    · obtain ⟨E, c', n', a1, a2, a3, a4⟩ := lw_call (d := d) (c := c) (n := n) (q := 5 * m) h (by omega) h.2.2.2.2.2 hl2 (by omega)
      obtain ⟨F, c2, n2, b1, b2, b3⟩ := lw_loop hl2 k (m + 1) E c' n' a1 (by omega) (by omega)
      refine ⟨F, c2, n2, by omega, by omega, ?_⟩
      rw [a4, lw_inc, show ((5 * m : Nat) : Int) + 5 = ((5 * (m + 1) : Nat) : Int) by omega]
      exact b3
/-- the law from its beginning -/
theorem lw_end1 {s : List Int} (hs : ∀ k, io_R (s.getD k 0)) (hl2 : s.length ≤ 2560) {u1 u2 u3 : Value} : ∃ (E : sp_I) (c n : Nat), c ≤ 600000 ∧ n ≤ 7302250 ∧ mm_Rn pg_G 7 104 0 [.ref 7, u1, u2, u3] [] (lw_g s) (some (io_v 1), sp_me E c n) := by
  obtain ⟨c, n, e, hc, hn⟩ := lw_4e s
  obtain ⟨E, c', n', b1, b2, b3⟩ := lw_loop (d := 0) hl2 512 0 (lw_0 s) c n (lw_0in s hs hl2) (by omega) (by omega)
  refine ⟨E, c', n', by omega, by omega, ?_⟩
  rw [lw_pre s (d := 4), e]
  exact b3
