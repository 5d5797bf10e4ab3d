/-! a job's tick keeps the core -/
theorem rlS_co {I I' J J' : sp_I} (e0 : I' 0 4 = I 0 4) (et : ∀ i v, v = 0 ∨ v = 1 ∨ v = 2 ∨ v = 5 → I' (ad_t i) v = I (ad_t i) v) (es : ∀ i k v, k < 4 → I' (ad_s i k) v = I (ad_s i k) v) (e2 : ∀ v, I' 2 v = I 2 v) (f : ∀ u v, (u = 8 ∧ v = 0) ∨ (9 ≤ u ∧ u ≤ 15) → J' u v = J u v) (h : rl_S I J) : rl_S I' J' := by
  have g : ∀ r, rf_ce J' r = rf_ce J r := by
    intro r
    unfold rf_ce
    rw [show rf_cv J' r = rf_cv J r from funext fun i => by simp (disch := omega) only [rf_cv, rf_p, f]]
    simp (disch := omega) only [rf_n, f]
  have en : sp_n I' = sp_n I := by unfold sp_n; rw [e0]
  have ec : ∀ i, sp_c I' i = sp_c I i := fun i => by unfold sp_c; rw [et i 5 (by omega)]
  obtain ⟨⟨a, b⟩, hT, hz, hk, hc⟩ := h
  refine ⟨⟨by rw [e0]; exact a, by rw [e0, f 8 0 (by omega)]; exact b⟩, fun i hi => ?_, fun i p q => ?_, fun k hk' => ?_, fun r hr => by rw [e2, g]; exact hc r hr⟩
  · rw [en] at hi
    obtain ⟨t1, t2, t3, t4, t5⟩ := hT i hi
    have h4 := (cl_cnt t3).2
    refine ⟨?_, ?_, ?_, fun k q => ?_, fun k q => ?_⟩
    · rw [et i 0 (by omega), et i 1 (by omega), et i 2 (by omega), et i 5 (by omega), f 9 i (by omega), f 10 i (by omega), f 11 i (by omega), f 12 i (by omega)]
      exact t1
    · rw [et i 0 (by omega), et i 1 (by omega), et i 2 (by omega)]
      exact t2
    · unfold cl_S
      rw [et i 5 (by omega)]
      exact t3
    · rw [ec] at q
      rw [es i k 0 (by omega), es i k 1 (by omega), es i k 2 (by omega)]
      exact t4 k q
    · rw [ec] at q
      rw [es i k 0 (by omega), es i k 1 (by omega), es i k 2 (by omega), f 13 _ (by omega), f 14 _ (by omega), f 15 _ (by omega)]
      exact t5 k q
  · rw [en] at p
    rw [f 12 i (by omega), f 10 i (by omega)]
    exact hz i p q
  · rw [f 13 k (by omega), f 14 k (by omega), f 15 k (by omega)]
    exact hk k hk'
theorem pf_cnt_add {p q : Nat → Prop} {i : Nat} (hq : q i) (hp : ¬ p i) : ∀ n, (∀ k, k ≠ i → (p k ↔ q k)) → i < n → pf_cnt n q = pf_cnt n p + 1
  | 0, _, h => absurd h (by omega)
  | n + 1, h, hi => by
    rw [pf_cnt, pf_cnt]
    by_cases e : i = n
    · subst e
      rw [pf_cnt_congr i (fun k hk => h k (by omega)), pb_pos hq, pb_neg hp]
      omega
    · rw [pf_cnt_add hq hp n h (by omega), pb_iff (h n (by omega))]
      omega
def tv_c (I I' : sp_I) (i : Nat) (B : Nat → Prop) (nw ov : Prop) : Prop :=
  (I' 0 4 = I 0 4 ∧ I' 0 5 = I 0 5 ∧ I' 0 6 = I 0 6 ∧ I' 0 7 = I 0 7 + pb_z ov) ∧ (∀ v, I' 2 v = I 2 v)
  ∧ (∀ j v, v = 0 ∨ v = 1 ∨ v = 2 ∨ v = 5 → I' (ad_t j) v = I (ad_t j) v) ∧ (∀ j k v, k < 4 → I' (ad_s j k) v = I (ad_s j k) v)
  ∧ (∀ j v, v = 1 ∨ v = 3 ∨ v = 4 → I' (ad_j j) v = I (ad_j j) v) ∧ (∀ j, I' (ad_j j) 2 = I (ad_j j) 2 + pb_z (j = i))
  ∧ (∀ j, I' (ad_j j) 6 = I (ad_j j) 6 + pb_z (B j)) ∧ (∀ j, I' (ad_j j) 5 = I (ad_j j) 5 + pb_z (B j ∧ I (ad_c j) i = 0))
  ∧ (∀ j r, (B j ∧ r = i → I' (ad_c j) r = I (ad_t i) 8) ∧ (¬ (B j ∧ r = i) → I' (ad_c j) r = I (ad_c j) r))
  ∧ (∀ j, I' (ad_t j) 8 = I (ad_t j) 8 + pb_z (j = i ∧ nw)) ∧ (∀ j, j < sp_n I → 0 ≤ I' (ad_t j) 9 ∧ I' (ad_t j) 9 ≤ I 5 1 + 1)
  ∧ (∀ j, (j = i ∧ ov → I' (ad_t j) 7 = max (I (ad_t i) 7) (I 5 1 + 1 - I (ad_j i) 3)) ∧ (¬ (j = i ∧ ov) → I' (ad_t j) 7 = I (ad_t j) 7))
def tv_r (I J J' : sp_I) (i : Nat) (B : Nat → Prop) (nw ov an : Prop) : Prop :=
  (J' 8 0 = J 8 0 ∧ J' 8 8 = J 8 8 ∧ J' 8 29 = J 8 29 ∧ J' 8 30 = J 8 30 + pb_z ov ∧ J' 8 28 = J 8 28 + pb_z nw)
  ∧ (∀ u v, (9 ≤ u ∧ u ≤ 15) ∨ u = 18 ∨ u = 19 → J' u v = J u v)
  ∧ (∀ j, (j = i ∧ ov → J' 17 j = 2) ∧ (¬ (j = i ∧ ov) → J' 17 j = J 17 j)) ∧ (∀ j, J' 20 j = J 20 j + pb_z (j = i))
  ∧ (∀ j, J' 21 j = J 21 j + pb_z (B j)) ∧ (∀ j, J' 23 j = J 23 j + pb_z (B j ∧ I (ad_c j) i = 0))
  ∧ (∀ j k, j < 6 → k < 60 → ((B j ∧ I (ad_c j) i = 0) ∧ k = (J 23 j).toNat → J' 24 (60 * j + k) = J 22 i) ∧ (¬ ((B j ∧ I (ad_c j) i = 0) ∧ k = (J 23 j).toNat) → J' 24 (60 * j + k) = J 24 (60 * j + k)))
  ∧ (∀ j, j ≠ i → J' 22 j = J 22 j) ∧ (¬ an → J' 22 i = 0) ∧ (an → nw → J' 22 i = J 8 28 + 1) ∧ (an → ¬ nw → J' 22 i = J 22 i)
  ∧ (∀ j, (j = i ∧ ov → J' 26 j = max (J 26 i) (I 5 1 + 1 - J 18 i)) ∧ (¬ (j = i ∧ ov) → J' 26 j = J 26 j))
section TT
variable {I J I' J' : sp_I} {i : Nat}
theorem tt (h : rl I J) (hc : ch_i I i) (ht : tv_c I I' i (fun j => j < sp_n I ∧ bk I i j) (¬ cl_any I i ∧ cl_any I' i) (I (ad_j i) 2 + 1 = I (ad_j i) 1)) (hr : tv_r I J J' i (fun j => j < sp_n I ∧ bk I i j) (¬ cl_any I i ∧ cl_any I' i) (I (ad_j i) 2 + 1 = I (ad_j i) 1) (cl_any I' i)) : rld I' J' (I 5 1 + 1) := by
  obtain ⟨⟨c04, c05, c06, c07⟩, c2, ct, cs, cj, cj2, cj6, cj5, cc, ct8, ct9, ct7⟩ := ht
  obtain ⟨⟨r0, r8, r29, r30, r28⟩, rs, r17, r20, r21, r23, r24, r22, r22a, r22b, r22c, r26⟩ := hr
  obtain ⟨hi, hpi, hF1, hN1⟩ := hc
  obtain ⟨-, -, hS, hV, -, ⟨-, hk1, hk2, hk3, hk4, hk5, hk6⟩, hA, hZ, hD, hF, h1, h2⟩ := h
  have hn := rl_n6 hS
  have en : sp_n I' = sp_n I := by unfold sp_n; rw [c04]
  have ec : ∀ j, sp_c I' j = sp_c I j := fun j => by unfold sp_c; rw [ct j 5 (by omega)]
  have hS' : rl_S I' J' := rlS_co c04 ct cs c2 (fun u v q => by rcases q with ⟨q1, q2⟩ | q; rw [q1, q2]; exact r0; exact rs u v (Or.inl q)) hS
  have hc4 : ∀ j, j < sp_n I → sp_c I j ≤ 4 := fun j hj => (cl_cnt (hS.2.1 j hj).2.2.1).2
  have hJi := (hA i hi).1
  have hru := hJi.2.1
  unfold cl_pend at hpi
  -- pending, begun, held
  have pj : ∀ j, j ≠ i → (cl_pend I' j ↔ cl_pend I j) := fun j hj => by unfold cl_pend; rw [cj2, cj j 1 (by omega), pb_neg hj, Int.add_zero]
  have pj' : ∀ j, cl_pend I' j → cl_pend I j := fun j q => by
    by_cases e : j = i
    · subst e; exact hpi
    · exact (pj j e).1 q
  have run' : ∀ j, j ≠ i → I' (ad_j j) 2 = I (ad_j j) 2 := fun j hj => by rw [cj2, pb_neg hj, Int.add_zero]
  have runi : I' (ad_j i) 2 = I (ad_j i) 2 + 1 := by rw [cj2, pb_pos rfl]
  have bgj : ∀ j, j ≠ i → (rl_bg I' j ↔ rl_bg I j) := fun j hj => by unfold rl_bg; rw [pj j hj, run' j hj]
  have hd : ∀ j k, j ≠ i → k < 4 → (cl_held I' j k ↔ cl_held I j k) := fun j k hj hk => by unfold cl_held; rw [pj j hj, run' j hj, cs j k 1 hk, cs j k 2 hk]
  have an : ∀ j, j < sp_n I → j ≠ i → (cl_any I' j ↔ cl_any I j) := fun j hjn hj => by
    unfold cl_any
    rw [ec]
    have := hc4 j hjn
    exact ⟨fun ⟨k, a, b⟩ => ⟨k, a, (hd j k hj (by omega)).1 b⟩, fun ⟨k, a, b⟩ => ⟨k, a, (hd j k hj (by omega)).2 b⟩⟩
  have bf : ∀ a b : Nat, cl_bf I' (2 + (a : Int)) (2 + (b : Int)) ↔ cl_bf I (2 + (a : Int)) (2 + (b : Int)) := fun a b => by rw [bf_j, bf_j, cj a 4 (by omega), cj b 4 (by omega)]
  -- a pending job before the runner
  have hB : ∀ j, j < sp_n I → cl_pend I j → cl_bf I (2 + j) (2 + i) → cl_any I i := fun j hj p b => by
    by_cases e : cl_c I = cl_f I
    · exact absurd b ((hF1 e).1 j hj p)
    · exact (hN1 e).1
  have hbg : cl_any I i → rl_bg I i := fun ⟨k, hk, q⟩ => rl_hbg hS hi hk q
  have hno : ∀ j, j < sp_n I → rl_bg I j → ¬ cl_bf I (2 + j) (2 + i) := fun j hj q b => by
    by_cases e : cl_c I = cl_f I
    · exact (hF1 e).1 j hj q.1 b
    · exact (hN1 e).2 j hj q b
  have hfi : I (ad_j i) 2 = 0 → (∀ j, j < sp_n I → cl_pend I j → ¬ cl_bf I (2 + j) (2 + i)) ∧ cl_top I < 101 - I (ad_t i) 1 := fun z => by
    by_cases e : cl_c I = cl_f I
    · exact ⟨(hF1 e).1, (hF1 e).2 z⟩
    · have := (hbg (hN1 e).1).2; omega
  have sp1 : cl_any I i → 1 ≤ I (ad_t i) 8 ∧ J 22 i ≠ 0 := (hA i hi).2.2.2.2.1
  have h23 : ∀ j, j < sp_n I → 0 ≤ J 23 j ∧ J 23 j ≤ 6 := fun j hj => by
    have := pf_cnt_rng (fun x => I (ad_c j) x ≠ 0) 6
    rw [(hA j hj).2.2.2.2.2.2.2]
    omega
  refine ⟨hS', ?_, fun j hj => ?_, fun j p q => ?_, ?_, ?_, ?_, ?_⟩
  · have b1 := pb_rng (I (ad_j i) 2 + 1 = I (ad_j i) 1)
    have b2 := pb_rng (¬ cl_any I i ∧ cl_any I' i)
    exact ⟨by rw [c05, r8]; exact hk2, ⟨by rw [c06, r29]; exact hk3.1, by rw [c07, r30, hk3.2]⟩, by rw [c06]; exact hk4, by rw [c07]; omega, by rw [r28]; omega⟩
  · rw [en] at hj
    obtain ⟨⟨⟨a1, a2, a3, a4, a5⟩, b, c17, d4, e18, f21⟩, ⟨⟨m1, m2⟩, m3, m4⟩, ⟨p1, p2, p3, p4, p5, p6⟩⟩ := hA j hj
    have q1 := pb_rng (j = i)
    have q2 := pb_rng (j < sp_n I ∧ bk I i j)
    refine ⟨⟨⟨?_, ?_, ?_, ?_, ?_⟩, ?_, ?_, ?_, ?_, ?_⟩, ⟨?_, ?_⟩, ⟨?_, ct9 j hj, ?_, ?_, ?_, ?_⟩⟩
    · rw [cj j 1 (by omega), rs 19 j (by omega)]; exact a1
    · rw [cj2, r20, a2]
    · rw [cj j 3 (by omega), rs 18 j (by omega)]; exact a3
    · rw [cj5, r23, a4]
    · rw [cj6, r21, a5]
    · rw [cj j 1 (by omega), cj2]
      by_cases e : j = i
      · subst e; rw [pb_pos rfl]; omega
      · rw [pb_neg e]; omega
    · rw [cj j 1 (by omega), cj2]
      by_cases e : j = i
      · subst e
        rw [pb_pos rfl, if_neg (by omega)]
        by_cases o : I (ad_j j) 2 + 1 = I (ad_j j) 1
        · rw [(r17 j).1 ⟨rfl, o⟩, if_neg (by omega)]
        · rw [(r17 j).2 (fun z => o z.2), c17, if_neg (by omega), if_pos hpi, if_pos (by omega)]
      · rw [pb_neg e, Int.add_zero, (r17 j).2 (fun z => e z.1), c17]
    · rw [cj j 1 (by omega), cj j 4 (by omega), rs 18 j (by omega), rs 10 j (by omega)]; exact d4
    · rw [rs 18 j (by omega)]
      exact ⟨e18.1, by omega, fun _ => by omega⟩
    · rw [r21]; show 0 ≤ J 21 j + pb_z (j < sp_n I ∧ bk I i j) ∧ J 21 j + pb_z (j < sp_n I ∧ bk I i j) ≤ I 5 1 + 1; omega
    · by_cases e : j = i ∧ I (ad_j i) 2 + 1 = I (ad_j i) 1
      · have e1 := e.1
        subst e1
        rw [(ct7 j).1 e, (r26 j).1 e, m2, a3]
      · rw [(ct7 j).2 e, (r26 j).2 e]; exact m2
    · by_cases e : j = i ∧ I (ad_j i) 2 + 1 = I (ad_j i) 1
      · have e1 := e.1
        subst e1
        rw [(ct7 j).1 e]; omega
      · rw [(ct7 j).2 e]; omega
    · have := pb_rng (j = i ∧ ¬ cl_any I i ∧ cl_any I' i)
      rw [ct8]; omega
    · intro q
      by_cases e : j = i
      · subst e
        by_cases o : cl_any I j
        · have := sp1 o
          have := pb_rng (j = j ∧ ¬ cl_any I j ∧ cl_any I' j)
          rw [ct8, r22c q (fun z => z.1 o)]
          exact ⟨by omega, by omega⟩
        · rw [ct8, pb_pos ⟨rfl, o, q⟩, r22b q ⟨o, q⟩]
          exact ⟨by omega, by omega⟩
      · rw [ct8, pb_neg (fun z => e z.1), Int.add_zero, r22 j e]
        exact p3 ((an j hj e).1 q)
    · intro q
      by_cases e : j = i
      · subst e; exact r22a q
      · rw [r22 j e]; exact p4 (fun z => q ((an j hj e).2 z))
    · have z := pb_rng (¬ cl_any I i ∧ cl_any I' i)
      rw [r28]
      by_cases e : j = i
      · subst e
        by_cases q : cl_any I' j
        · by_cases w : ¬ cl_any I j ∧ cl_any I' j
          · rw [r22b q w, pb_pos w]; omega
          · rw [r22c q w]; omega
        · rw [r22a q]; omega
      · rw [r22 j e]; omega
    · rw [r23, p6]
      by_cases w : j < sp_n I ∧ bk I i j
      · have sp := sp1 (hB j hj w.2.1 w.2.2)
        by_cases z : I (ad_c j) i = 0
        · rw [pb_pos ⟨w, z⟩]
          refine (pf_cnt_add (i := i) ?_ (fun y => y z) 6 (fun k hk => ?_) (by omega)).symm
          · rw [(cc j i).1 ⟨w, rfl⟩]; omega
          · rw [(cc j k).2 (fun y => hk y.2)]
        · rw [pb_neg (fun y => z y.2), Int.add_zero]
          refine pf_cnt_congr 6 (fun k hk => ?_)
          by_cases e : k = i
          · subst e
            rw [(cc j k).1 ⟨w, rfl⟩]
            exact ⟨fun _ => by omega, fun _ => z⟩
          · rw [(cc j k).2 (fun y => e y.2)]
      · rw [pb_neg (fun y => w y.1), Int.add_zero]
        refine pf_cnt_congr 6 (fun k hk => ?_)
        rw [(cc j k).2 (fun y => w y.1)]
  · rw [en] at p
    obtain ⟨z1, z2, z3, z4, z5, z6, z7, z8, z9⟩ := hZ j p q
    have e : j ≠ i := by omega
    refine ⟨?_, ?_, ?_, ?_, ?_, ?_, ?_, ?_⟩
    · rw [(r17 j).2 (fun z => e z.1)]; exact z1
    · rw [rs 18 j (by omega)]; exact z2
    · rw [rs 19 j (by omega)]; exact z3
    · rw [r20, pb_neg e, z4]; rfl
    · rw [r21, pb_neg (fun z => by omega), z5]; rfl
    · rw [r22 j e]; exact z6
    · rw [r23, pb_neg (fun z => by omega), z7]; rfl
    · rw [(r26 j).2 (fun z => e z.1)]; exact z9
  · intro j a hj ha pj1 ba bb
    rw [en] at hj ha
    rw [bf] at bb
    have pj0 := pj' j pj1
    have k23 := h23 j hj
    by_cases e : a = i
    · subst e
      have ca := hB j hj pj0 bb
      have sp := sp1 ca
      have w : j < sp_n I ∧ bk I a j := ⟨hj, pj0, bb⟩
      have nw : ¬ (¬ cl_any I a ∧ cl_any I' a) := fun z => z.1 ca
      obtain ⟨d1, d2⟩ := hD j a hj ha pj0 (hbg ca) bb
      rw [(cc j a).1 ⟨w, rfl⟩, ct8, pb_neg (fun z => nw z.2), Int.add_zero]
      refine ⟨Or.inr rfl, fun z22 => ?_⟩
      have q : cl_any I' a := by
        rcases Classical.em (cl_any I' a) with y | y
        · exact y
        · exact absurd (r22a y) z22
      rw [r22c q nw]
      refine ⟨fun _ => by omega, fun _ => ?_⟩
      by_cases z : I (ad_c j) a = 0
      · refine ⟨(J 23 j).toNat, ?_, ?_⟩
        · rw [r23, pb_pos ⟨w, z⟩]; omega
        · exact (r24 j _ (by omega) (by omega)).1 ⟨⟨w, z⟩, rfl⟩
      · obtain ⟨k, hk, ek⟩ := (d2 sp.2).2 z
        refine ⟨k, ?_, ?_⟩
        · rw [r23, pb_neg (fun y => z y.2), Int.add_zero]; exact hk
        · rw [(r24 j k (by omega) (by omega)).2 (fun y => z y.1.2)]; exact ek
    · have ba0 := (bgj a e).1 ba
      obtain ⟨d1, d2⟩ := hD j a hj ha pj0 ba0 bb
      rw [(cc j a).2 (fun y => e y.2), ct8, pb_neg (fun y => e y.1), Int.add_zero, r22 a e]
      refine ⟨d1, fun z22 => ?_⟩
      rw [← d2 z22]
      by_cases w : (j < sp_n I ∧ bk I i j) ∧ I (ad_c j) i = 0
      · rw [r23, pb_pos w]
        constructor
        · rintro ⟨k, hk, ek⟩
          by_cases y : k = (J 23 j).toNat
          · rw [(r24 j k (by omega) (by omega)).1 ⟨w, y⟩] at ek
            exact absurd ek.symm (hF a i ha hi e z22)
          · rw [(r24 j k (by omega) (by omega)).2 (fun x => y x.2)] at ek
            exact ⟨k, by omega, ek⟩
        · rintro ⟨k, hk, ek⟩
          exact ⟨k, by omega, by rw [(r24 j k (by omega) (by omega)).2 (fun x => by have := x.2; omega)]; exact ek⟩
      · rw [r23, pb_neg w, Int.add_zero]
        constructor
        · rintro ⟨k, hk, ek⟩
          exact ⟨k, hk, by rw [(r24 j k (by omega) (by omega)).2 (fun x => w x.1)] at ek; exact ek⟩
        · rintro ⟨k, hk, ek⟩
          exact ⟨k, hk, by rw [(r24 j k (by omega) (by omega)).2 (fun x => w x.1)]; exact ek⟩
  · intro a b ha hb hab z22
    rw [en] at ha hb
    have bnd : ∀ j, j < sp_n I → 0 ≤ J 22 j ∧ J 22 j ≤ J 8 28 := fun j hj => (hA j hj).2.2.2.2.2.2.1
    by_cases e : a = i
    · subst e
      rw [r22 b (fun z => hab z.symm)]
      have q : cl_any I' a := by
        rcases Classical.em (cl_any I' a) with y | y
        · exact y
        · exact absurd (r22a y) z22
      by_cases w : ¬ cl_any I a ∧ cl_any I' a
      · rw [r22b q w]; have := bnd b hb; omega
      · rw [r22c q w] at z22 ⊢; exact hF a b ha hb hab z22
    · rw [r22 a e] at z22 ⊢
      by_cases e2 : b = i
      · subst e2
        by_cases q : cl_any I' b
        · by_cases w : ¬ cl_any I b ∧ cl_any I' b
          · rw [r22b q w]; have := bnd a ha; omega
          · rw [r22c q w]; exact hF a b ha hb hab z22
        · rw [r22a q]; exact z22
      · rw [r22 b e2]; exact hF a b ha hb hab z22
  · intro j x hj hx bj px nx bb
    rw [en] at hj hx
    rw [bf] at bb
    rw [cj j 3 (by omega), cj x 3 (by omega)]
    have xi : x ≠ i := by rintro rfl; rw [runi] at nx; omega
    have px0 := (pj x xi).1 px
    rw [run' x xi] at nx
    by_cases e : j = i
    · subst e
      by_cases z : I (ad_j j) 2 = 0
      · exact absurd bb ((hfi z).1 x hx px0)
      · exact h1 j x hj hx ⟨hpi, by omega⟩ px0 nx bb
    · exact h1 j x hj hx ((bgj j e).1 bj) px0 nx bb
  · intro a b ha hb ba bb bfa k hk hh
    rw [en] at ha hb
    rw [ec] at hk
    rw [bf] at bfa
    have := hc4 a ha
    rw [cs a k 0 (by omega), c2, ct b 1 (by omega)]
    have ab : a ≠ b := by rintro rfl; exact bf_irr I bfa
    by_cases e : a = i
    · subst e
      exact absurd bfa (hno b hb ((bgj b (fun z => ab z.symm)).1 bb))
    · have hh0 := (hd a k e (by omega)).1 hh
      have ba0 := (bgj a e).1 ba
      by_cases e2 : b = i
      · subst e2
        by_cases z : I (ad_j b) 2 = 0
        · have t := (hfi z).2
          have g1 := pf_max_ge (f := cl_hi I) ha
          have g2 : cl_hv I a k ≤ cl_hi I a := pf_max_ge (f := cl_hv I a) hk
          unfold cl_hv at g2
          rw [pb_pos hh0, Int.one_mul] at g2
          unfold cl_top at t
          omega
        · exact h2 a b ha hb ba0 ⟨hpi, by omega⟩ bfa k hk hh0
      · exact h2 a b ha hb ba0 ((bgj b e2).1 bb) bfa k hk hh0
end TT
