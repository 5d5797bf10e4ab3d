/-! the law's cases that change something: what a call leaves as it was -/
section LO
variable {I J : sp_I}
theorem mt_o {u v : Nat} (h : (7 ≤ u ∧ u < 32) ∨ (u = 0 ∧ v = 5)) : cl_mt I u v = I u v := by
  unfold cl_mt
  rw [nm_o (Or.inr (fun k => by unfold ad_t; omega))]
  show n2 (cl_m1 I) (cl_c I) u v = I u v
  rw [n2_o (by omega)]
  unfold cl_m1
  split
  · exact sv_o u v (by omega)
  split
  · rfl
  split
  · exact rj_0 u v (by omega) (by omega)
  · rw [cl_nb_04 (by omega)]
    exact rj_0 u v (by omega) (by omega)
theorem it_o {u v : Nat} (h : (7 ≤ u ∧ u < 32) ∨ (u = 0 ∧ v = 5)) : ∀ n, cl_it I n u v = I u v
  | 0 => rfl
  | n + 1 => by rw [cl_it, mt_o h]; exact it_o h n
theorem rmt_o {u v : Nat} (h : u < 8 ∨ 28 ≤ u) : rf_mt J u v = J u v := by
  unfold rf_mt
  rw [rf_tm_out (by omega)]
  show m2 (rf_t1 J) (rf_ch J) (rf_cd (rf_ch J)) u v = J u v
  rw [m2_o (by omega)]
  unfold rf_t1
  split
  · rfl
  split
  · exact s3_o u v (by omega)
  · rw [w6_at u v (by omega) (by omega)]
    exact rf_w5_out (by omega) (by omega)
theorem itr_o {u v : Nat} (h : u < 8 ∨ 28 ≤ u) : ∀ n, rf_itr J n u v = J u v
  | 0 => rfl
  | n + 1 => by rw [rf_itr, rmt_o h]; exact itr_o h n
theorem tas_o {p s c : Int} {u v : Nat} (h : 7 ≤ u ∧ u < 32) : cl_tas I p s c u v = I u v := cl_tas_o p s c (by omega) (by unfold ad_t; omega) (by unfold ad_j; omega) (by unfold ad_c; omega)
theorem rtas_o {p s c : Int} {u v : Nat} (h : u < 8 ∨ 28 ≤ u) : rf_tas J p s c u v = J u v := by
  unfold rf_tas up_I
  rw [if_neg (by omega), if_neg (by omega), if_neg (by omega), if_neg (by omega)]
theorem sec2_o {i : Nat} {r f t : Int} {u v : Nat} (h : 7 ≤ u ∧ u < 32) : cl_sec2 I i r f t u v = I u v := by
  unfold cl_sec2
  rw [up_cell (by omega)]
  exact cl_sec_o r f t (by unfold ad_s; omega) (by unfold ad_t; omega)
theorem rsec_o {i : Nat} {r f t : Int} {u v : Nat} (h : u < 8 ∨ 28 ≤ u) : rf_sec J i r f t u v = J u v := by
  unfold rf_sec up_I
  rw [if_neg (by omega), if_neg (by omega), if_neg (by omega), if_neg (by omega)]
theorem tk_o {a now : Int} {u v : Nat} (h : u ≠ 3 ∧ u ≠ 4) : cl_tk2 (cl_tk1 I now) a u v = I u v := by
  unfold cl_tk2
  rw [up_cell h.1, up_cell h.2]
  unfold cl_tk1
  split
  · rw [up_cell h.1, up_cell h.1]
  · rfl
theorem rsb_o {a : Int} {u v : Nat} (h : u < 8 ∨ 28 ≤ u) : rf_sb2 (rf_sb1 J) a u v = J u v := by
  unfold rf_sb2
  rw [up_cell (by omega), up_cell (by omega)]
  unfold rf_sb1
  split
  · rw [up_cell (by omega), up_cell (by omega)]
  · rfl
theorem rel_o {i : Nat} {a : Int} {u v : Nat} (h : 7 ≤ u ∧ u < 32) : cl_rel I i a u v = I u v := cr_o (by unfold ad_c; omega) (by unfold ad_j; omega) (by omega)
theorem rrel_o {i : Nat} {a : Int} {u v : Nat} (h : u < 8 ∨ 28 ≤ u) : rf_rel J i a u v = J u v := rr_o (by omega)
end LO
/-- a class's call leaves the reference's cells -/
theorem lw_mc {M C : sp_I} (h : rl M M) (hR : sp_R C) (hC : ∀ u v, 7 ≤ u ∧ u < 32 → C u v = M u v) : rl M C :=
  rl_co (fun _ _ _ => rfl) (fun u v q => hC u v (by unfold rf_cell at q; omega)) h.1 hR h
theorem lw_ch {s : List Int} {m : Nat} {M C E : sp_I} (h : lw_in s m M) (hC : ∀ u v, 7 ≤ u ∧ u < 32 → C u v = M u v) (hE : ∀ u v, u < 8 ∨ 28 ≤ u → E u v = C u v) (hr : rl C E) (hns : C 0 5 = 0 → ∀ j, j < sp_n C → C (ad_j j) 1 = 0) (h6 : C 0 6 ≤ M 0 6 + 1) (h5 : C 5 1 ≤ M 5 1 + 200) : lw_in s (m + 1) E := by
  refine lw_two (C := C) (X := C) (Y := E) h hr (fun u v q => (hE u v (by unfold cl_cell at q; omega)).symm) (fun _ _ _ => rfl) hr.2.1 (fun u v q => ?_) (fun z j hj => ?_) ?_ ?_
  · rw [hE u v (by omega), hC u v (by omega)]
  · have en : sp_n E = sp_n C := by unfold sp_n; rw [hE 0 4 (by omega)]
    rw [hE _ _ (by unfold ad_j; omega)]
    rw [hE 0 5 (by omega)] at z
    exact hns z j (by omega)
  · rw [hE 0 6 (by omega)]; exact h6
  · rw [hE 5 1 (by omega)]; exact h5
