/-! the classes -/
set_option maxRecDepth 100000 in
theorem pg_u0 : u_ws (pg_ck 0).1 (pg_ck 0).2.1 (pg_sl 0) = [101, 102, 103, 104, 105, 106, 107, 108].filterMap (fun i => pg_AL[i]?) := by decide +kernel
set_option maxRecDepth 100000 in
theorem pg_c0 : mm_cok pg_S 0 := by
  refine ⟨fun w hw => ?_, List.mem_of_getElem? (i := 40) (by decide +kernel), List.mem_of_getElem? (i := 31) (by decide +kernel), ?_, ?_, ?_⟩
  · have hw : w ∈ u_ws (pg_ck 0).1 (pg_ck 0).2.1 (pg_sl 0) := hw
    rw [pg_u0] at hw
    obtain ⟨i, -, hi⟩ := List.mem_filterMap.mp hw
    exact List.mem_of_getElem? hi
  · show ∀ j, j < pg_sl 0 → parseFieldDescriptor ((pg_ck 0).2.1 j).2.2.1 = some (pg_ft 0 j)
    decide +kernel
  · show ∀ a, a < pg_sl 0 → ∀ b, b < pg_sl 0 → a ≠ b → ((pg_ck 0).2.1 a).2.1 ≠ ((pg_ck 0).2.1 b).2.1
    decide +kernel
  · show ∀ j, j < pg_sl 0 → mm_pt (pg_ft 0 j) = true
    decide +kernel
set_option maxRecDepth 100000 in
theorem pg_u1 : u_ws (pg_ck 1).1 (pg_ck 1).2.1 (pg_sl 1) = [67, 68, 69, 70, 71, 72, 73, 74, 75].filterMap (fun i => pg_AL[i]?) := by decide +kernel
set_option maxRecDepth 100000 in
theorem pg_c1 : mm_cok pg_S 1 := by
  refine ⟨fun w hw => ?_, List.mem_of_getElem? (i := 49) (by decide +kernel), List.mem_of_getElem? (i := 32) (by decide +kernel), ?_, ?_, ?_⟩
  · have hw : w ∈ u_ws (pg_ck 1).1 (pg_ck 1).2.1 (pg_sl 1) := hw
    rw [pg_u1] at hw
    obtain ⟨i, -, hi⟩ := List.mem_filterMap.mp hw
    exact List.mem_of_getElem? hi
  · show ∀ j, j < pg_sl 1 → parseFieldDescriptor ((pg_ck 1).2.1 j).2.2.1 = some (pg_ft 1 j)
    decide +kernel
  · show ∀ a, a < pg_sl 1 → ∀ b, b < pg_sl 1 → a ≠ b → ((pg_ck 1).2.1 a).2.1 ≠ ((pg_ck 1).2.1 b).2.1
    decide +kernel
  · show ∀ j, j < pg_sl 1 → mm_pt (pg_ft 1 j) = true
    decide +kernel
set_option maxRecDepth 100000 in
theorem pg_u2 : u_ws (pg_ck 2).1 (pg_ck 2).2.1 (pg_sl 2) = [89, 90, 91, 92].filterMap (fun i => pg_AL[i]?) := by decide +kernel
set_option maxRecDepth 100000 in
theorem pg_c2 : mm_cok pg_S 2 := by
  refine ⟨fun w hw => ?_, List.mem_of_getElem? (i := 78) (by decide +kernel), List.mem_of_getElem? (i := 33) (by decide +kernel), ?_, ?_, ?_⟩
  · have hw : w ∈ u_ws (pg_ck 2).1 (pg_ck 2).2.1 (pg_sl 2) := hw
    rw [pg_u2] at hw
    obtain ⟨i, -, hi⟩ := List.mem_filterMap.mp hw
    exact List.mem_of_getElem? hi
  · show ∀ j, j < pg_sl 2 → parseFieldDescriptor ((pg_ck 2).2.1 j).2.2.1 = some (pg_ft 2 j)
    decide +kernel
  · show ∀ a, a < pg_sl 2 → ∀ b, b < pg_sl 2 → a ≠ b → ((pg_ck 2).2.1 a).2.1 ≠ ((pg_ck 2).2.1 b).2.1
    decide +kernel
  · show ∀ j, j < pg_sl 2 → mm_pt (pg_ft 2 j) = true
    decide +kernel
set_option maxRecDepth 100000 in
theorem pg_u3 : u_ws (pg_ck 3).1 (pg_ck 3).2.1 (pg_sl 3) = [158, 159, 160, 161, 162, 163, 164, 165, 166, 167].filterMap (fun i => pg_AL[i]?) := by decide +kernel
set_option maxRecDepth 100000 in
theorem pg_c3 : mm_cok pg_S 3 := by
  refine ⟨fun w hw => ?_, List.mem_of_getElem? (i := 113) (by decide +kernel), List.mem_of_getElem? (i := 35) (by decide +kernel), ?_, ?_, ?_⟩
  · have hw : w ∈ u_ws (pg_ck 3).1 (pg_ck 3).2.1 (pg_sl 3) := hw
    rw [pg_u3] at hw
    obtain ⟨i, -, hi⟩ := List.mem_filterMap.mp hw
    exact List.mem_of_getElem? hi
  · show ∀ j, j < pg_sl 3 → parseFieldDescriptor ((pg_ck 3).2.1 j).2.2.1 = some (pg_ft 3 j)
    decide +kernel
  · show ∀ a, a < pg_sl 3 → ∀ b, b < pg_sl 3 → a ≠ b → ((pg_ck 3).2.1 a).2.1 ≠ ((pg_ck 3).2.1 b).2.1
    decide +kernel
  · show ∀ j, j < pg_sl 3 → mm_pt (pg_ft 3 j) = true
    decide +kernel
set_option maxRecDepth 100000 in
theorem pg_u4 : u_ws (pg_ck 4).1 (pg_ck 4).2.1 (pg_sl 4) = [201, 202, 203].filterMap (fun i => pg_AL[i]?) := by decide +kernel
set_option maxRecDepth 100000 in
theorem pg_c4 : mm_cok pg_S 4 := by
  refine ⟨fun w hw => ?_, List.mem_of_getElem? (i := 190) (by decide +kernel), List.mem_of_getElem? (i := 37) (by decide +kernel), ?_, ?_, ?_⟩
  · have hw : w ∈ u_ws (pg_ck 4).1 (pg_ck 4).2.1 (pg_sl 4) := hw
    rw [pg_u4] at hw
    obtain ⟨i, -, hi⟩ := List.mem_filterMap.mp hw
    exact List.mem_of_getElem? hi
  · show ∀ j, j < pg_sl 4 → parseFieldDescriptor ((pg_ck 4).2.1 j).2.2.1 = some (pg_ft 4 j)
    decide +kernel
  · show ∀ a, a < pg_sl 4 → ∀ b, b < pg_sl 4 → a ≠ b → ((pg_ck 4).2.1 a).2.1 ≠ ((pg_ck 4).2.1 b).2.1
    decide +kernel
  · show ∀ j, j < pg_sl 4 → mm_pt (pg_ft 4 j) = true
    decide +kernel
set_option maxRecDepth 100000 in
theorem pg_u5 : u_ws (pg_ck 5).1 (pg_ck 5).2.1 (pg_sl 5) = [134, 135, 136, 137, 138, 139, 140].filterMap (fun i => pg_AL[i]?) := by decide +kernel
set_option maxRecDepth 100000 in
theorem pg_c5 : mm_cok pg_S 5 := by
  refine ⟨fun w hw => ?_, List.mem_of_getElem? (i := 120) (by decide +kernel), List.mem_of_getElem? (i := 36) (by decide +kernel), ?_, ?_, ?_⟩
  · have hw : w ∈ u_ws (pg_ck 5).1 (pg_ck 5).2.1 (pg_sl 5) := hw
    rw [pg_u5] at hw
    obtain ⟨i, -, hi⟩ := List.mem_filterMap.mp hw
    exact List.mem_of_getElem? hi
  · show ∀ j, j < pg_sl 5 → parseFieldDescriptor ((pg_ck 5).2.1 j).2.2.1 = some (pg_ft 5 j)
    decide +kernel
  · show ∀ a, a < pg_sl 5 → ∀ b, b < pg_sl 5 → a ≠ b → ((pg_ck 5).2.1 a).2.1 ≠ ((pg_ck 5).2.1 b).2.1
    decide +kernel
  · show ∀ j, j < pg_sl 5 → mm_pt (pg_ft 5 j) = true
    decide +kernel
set_option maxRecDepth 100000 in
theorem pg_u6 : u_ws (pg_ck 6).1 (pg_ck 6).2.1 (pg_sl 6) = [457, 458, 459, 460, 461, 462, 463, 464, 465, 466, 467, 468, 469, 470, 471, 472, 473, 474, 475, 476, 477, 478, 479, 480, 481, 482, 483, 484, 485, 486, 487, 488, 489, 490, 491].filterMap (fun i => pg_AL[i]?) := by decide +kernel
set_option maxRecDepth 100000 in
theorem pg_c6 : mm_cok pg_S 6 := by
  refine ⟨fun w hw => ?_, List.mem_of_getElem? (i := 417) (by decide +kernel), List.mem_of_getElem? (i := 34) (by decide +kernel), ?_, ?_, ?_⟩
  · have hw : w ∈ u_ws (pg_ck 6).1 (pg_ck 6).2.1 (pg_sl 6) := hw
    rw [pg_u6] at hw
    obtain ⟨i, -, hi⟩ := List.mem_filterMap.mp hw
    exact List.mem_of_getElem? hi
  · show ∀ j, j < pg_sl 6 → parseFieldDescriptor ((pg_ck 6).2.1 j).2.2.1 = some (pg_ft 6 j)
    decide +kernel
  · show ∀ a, a < pg_sl 6 → ∀ b, b < pg_sl 6 → a ≠ b → ((pg_ck 6).2.1 a).2.1 ≠ ((pg_ck 6).2.1 b).2.1
    decide +kernel
  · show ∀ j, j < pg_sl 6 → mm_pt (pg_ft 6 j) = true
    decide +kernel
theorem pg_cok : ∀ ci, ci < 7 → mm_cok pg_S ci
  | 0, _ => pg_c0
  | 1, _ => pg_c1
  | 2, _ => pg_c2
  | 3, _ => pg_c3
  | 4, _ => pg_c4
  | 5, _ => pg_c5
  | 6, _ => pg_c6
  | _ + 7, h => absurd h (by omega)
