/-! the kernel's check of the methods, by program -/
theorem zi_allof {k n : Nat} (h : (List.range n).all (fun b => zi_chk zi_T k (zi_sp zi_T k b) (zi_bk zi_T k b)) = true) (hn : (zi_T k).2.2.1.length = n) : ∀ b, zi_chk zi_T k (zi_sp zi_T k b) (zi_bk zi_T k b) = true := by
  intro b
  by_cases hb : b < n
  · exact List.all_eq_true.mp h b (List.mem_range.mpr hb)
  · have e : zi_bk zi_T k b = [] := by
      show ((zi_T k).2.2.1.getD b []) = []
      rw [List.getD_eq_getElem?_getD, List.getElem?_eq_none (by rw [hn]; omega)]
      rfl
    rw [e]
    rfl
set_option maxRecDepth 100000 in
theorem zk_0_a : (List.range 1).all (fun b => zi_chk zi_T 0 (zi_sp zi_T 0 b) (zi_bk zi_T 0 b)) = true := by decide +kernel
theorem zk_0 : ∀ b, zi_chk zi_T 0 (zi_sp zi_T 0 b) (zi_bk zi_T 0 b) = true := zi_allof zk_0_a rfl
set_option maxRecDepth 100000 in
theorem zk_1_a : (List.range 3).all (fun b => zi_chk zi_T 1 (zi_sp zi_T 1 b) (zi_bk zi_T 1 b)) = true := by decide +kernel
theorem zk_1 : ∀ b, zi_chk zi_T 1 (zi_sp zi_T 1 b) (zi_bk zi_T 1 b) = true := zi_allof zk_1_a rfl
set_option maxRecDepth 100000 in
theorem zk_2_a : (List.range 5).all (fun b => zi_chk zi_T 2 (zi_sp zi_T 2 b) (zi_bk zi_T 2 b)) = true := by decide +kernel
theorem zk_2 : ∀ b, zi_chk zi_T 2 (zi_sp zi_T 2 b) (zi_bk zi_T 2 b) = true := zi_allof zk_2_a rfl
set_option maxRecDepth 100000 in
theorem zk_3_a : (List.range 1).all (fun b => zi_chk zi_T 3 (zi_sp zi_T 3 b) (zi_bk zi_T 3 b)) = true := by decide +kernel
theorem zk_3 : ∀ b, zi_chk zi_T 3 (zi_sp zi_T 3 b) (zi_bk zi_T 3 b) = true := zi_allof zk_3_a rfl
set_option maxRecDepth 100000 in
theorem zk_4_a : (List.range 1).all (fun b => zi_chk zi_T 4 (zi_sp zi_T 4 b) (zi_bk zi_T 4 b)) = true := by decide +kernel
theorem zk_4 : ∀ b, zi_chk zi_T 4 (zi_sp zi_T 4 b) (zi_bk zi_T 4 b) = true := zi_allof zk_4_a rfl
set_option maxRecDepth 100000 in
theorem zk_5_a : (List.range 1).all (fun b => zi_chk zi_T 5 (zi_sp zi_T 5 b) (zi_bk zi_T 5 b)) = true := by decide +kernel
theorem zk_5 : ∀ b, zi_chk zi_T 5 (zi_sp zi_T 5 b) (zi_bk zi_T 5 b) = true := zi_allof zk_5_a rfl
set_option maxRecDepth 100000 in
theorem zk_6_a : (List.range 1).all (fun b => zi_chk zi_T 6 (zi_sp zi_T 6 b) (zi_bk zi_T 6 b)) = true := by decide +kernel
theorem zk_6 : ∀ b, zi_chk zi_T 6 (zi_sp zi_T 6 b) (zi_bk zi_T 6 b) = true := zi_allof zk_6_a rfl
set_option maxRecDepth 100000 in
theorem zk_7_a : (List.range 3).all (fun b => zi_chk zi_T 7 (zi_sp zi_T 7 b) (zi_bk zi_T 7 b)) = true := by decide +kernel
theorem zk_7 : ∀ b, zi_chk zi_T 7 (zi_sp zi_T 7 b) (zi_bk zi_T 7 b) = true := zi_allof zk_7_a rfl
set_option maxRecDepth 100000 in
theorem zk_8_a : (List.range 1).all (fun b => zi_chk zi_T 8 (zi_sp zi_T 8 b) (zi_bk zi_T 8 b)) = true := by decide +kernel
theorem zk_8 : ∀ b, zi_chk zi_T 8 (zi_sp zi_T 8 b) (zi_bk zi_T 8 b) = true := zi_allof zk_8_a rfl
set_option maxRecDepth 100000 in
theorem zk_9_0 : zi_chk zi_T 9 (zi_sp zi_T 9 0) (zi_bk zi_T 9 0) = true := by decide +kernel
set_option maxRecDepth 100000 in
theorem zk_9_1 : zi_chk zi_T 9 (zi_sp zi_T 9 1) (zi_bk zi_T 9 1) = true := by decide +kernel
set_option maxRecDepth 100000 in
theorem zk_9_2 : zi_chk zi_T 9 (zi_sp zi_T 9 2) (zi_bk zi_T 9 2) = true := by decide +kernel
set_option maxRecDepth 100000 in
theorem zk_9_3 : zi_chk zi_T 9 (zi_sp zi_T 9 3) (zi_bk zi_T 9 3) = true := by decide +kernel
set_option maxRecDepth 100000 in
theorem zk_9_4 : zi_chk zi_T 9 (zi_sp zi_T 9 4) (zi_bk zi_T 9 4) = true := by decide +kernel
set_option maxRecDepth 100000 in
theorem zk_9_5 : zi_chk zi_T 9 (zi_sp zi_T 9 5) (zi_bk zi_T 9 5) = true := by decide +kernel
set_option maxRecDepth 100000 in
theorem zk_9_6 : zi_chk zi_T 9 (zi_sp zi_T 9 6) (zi_bk zi_T 9 6) = true := by decide +kernel
set_option maxRecDepth 100000 in
theorem zk_9_7 : zi_chk zi_T 9 (zi_sp zi_T 9 7) (zi_bk zi_T 9 7) = true := by decide +kernel
set_option maxRecDepth 100000 in
theorem zk_9_8 : zi_chk zi_T 9 (zi_sp zi_T 9 8) (zi_bk zi_T 9 8) = true := by decide +kernel
set_option maxRecDepth 100000 in
theorem zk_9_9 : zi_chk zi_T 9 (zi_sp zi_T 9 9) (zi_bk zi_T 9 9) = true := by decide +kernel
set_option maxRecDepth 100000 in
theorem zk_9_10 : zi_chk zi_T 9 (zi_sp zi_T 9 10) (zi_bk zi_T 9 10) = true := by decide +kernel
set_option maxRecDepth 100000 in
theorem zk_9_11 : zi_chk zi_T 9 (zi_sp zi_T 9 11) (zi_bk zi_T 9 11) = true := by decide +kernel
set_option maxRecDepth 100000 in
theorem zk_9_12 : zi_chk zi_T 9 (zi_sp zi_T 9 12) (zi_bk zi_T 9 12) = true := by decide +kernel
set_option maxRecDepth 100000 in
theorem zk_9_13 : zi_chk zi_T 9 (zi_sp zi_T 9 13) (zi_bk zi_T 9 13) = true := by decide +kernel
set_option maxRecDepth 100000 in
theorem zk_9_14 : zi_chk zi_T 9 (zi_sp zi_T 9 14) (zi_bk zi_T 9 14) = true := by decide +kernel
set_option maxRecDepth 100000 in
theorem zk_9_15 : zi_chk zi_T 9 (zi_sp zi_T 9 15) (zi_bk zi_T 9 15) = true := by decide +kernel
set_option maxRecDepth 100000 in
theorem zk_9_16 : zi_chk zi_T 9 (zi_sp zi_T 9 16) (zi_bk zi_T 9 16) = true := by decide +kernel
set_option maxRecDepth 100000 in
theorem zk_9_17 : zi_chk zi_T 9 (zi_sp zi_T 9 17) (zi_bk zi_T 9 17) = true := by decide +kernel
set_option maxRecDepth 100000 in
theorem zk_9_18 : zi_chk zi_T 9 (zi_sp zi_T 9 18) (zi_bk zi_T 9 18) = true := by decide +kernel
set_option maxRecDepth 100000 in
theorem zk_9_19 : zi_chk zi_T 9 (zi_sp zi_T 9 19) (zi_bk zi_T 9 19) = true := by decide +kernel
set_option maxRecDepth 100000 in
theorem zk_9_20 : zi_chk zi_T 9 (zi_sp zi_T 9 20) (zi_bk zi_T 9 20) = true := by decide +kernel
set_option maxRecDepth 100000 in
theorem zk_9_21 : zi_chk zi_T 9 (zi_sp zi_T 9 21) (zi_bk zi_T 9 21) = true := by decide +kernel
set_option maxRecDepth 100000 in
theorem zk_9_22 : zi_chk zi_T 9 (zi_sp zi_T 9 22) (zi_bk zi_T 9 22) = true := by decide +kernel
set_option maxRecDepth 100000 in
theorem zk_9_23 : zi_chk zi_T 9 (zi_sp zi_T 9 23) (zi_bk zi_T 9 23) = true := by decide +kernel
set_option maxRecDepth 100000 in
theorem zk_9_24 : zi_chk zi_T 9 (zi_sp zi_T 9 24) (zi_bk zi_T 9 24) = true := by decide +kernel
set_option maxRecDepth 100000 in
theorem zk_9_25 : zi_chk zi_T 9 (zi_sp zi_T 9 25) (zi_bk zi_T 9 25) = true := by decide +kernel
set_option maxRecDepth 100000 in
theorem zk_9_26 : zi_chk zi_T 9 (zi_sp zi_T 9 26) (zi_bk zi_T 9 26) = true := by decide +kernel
set_option maxRecDepth 100000 in
theorem zk_9_27 : zi_chk zi_T 9 (zi_sp zi_T 9 27) (zi_bk zi_T 9 27) = true := by decide +kernel
set_option maxRecDepth 100000 in
theorem zk_9_28 : zi_chk zi_T 9 (zi_sp zi_T 9 28) (zi_bk zi_T 9 28) = true := by decide +kernel
set_option maxRecDepth 100000 in
theorem zk_9_29 : zi_chk zi_T 9 (zi_sp zi_T 9 29) (zi_bk zi_T 9 29) = true := by decide +kernel
set_option maxRecDepth 100000 in
theorem zk_9_30 : zi_chk zi_T 9 (zi_sp zi_T 9 30) (zi_bk zi_T 9 30) = true := by decide +kernel
set_option maxRecDepth 100000 in
theorem zk_9_31 : zi_chk zi_T 9 (zi_sp zi_T 9 31) (zi_bk zi_T 9 31) = true := by decide +kernel
set_option maxRecDepth 100000 in
theorem zk_9_32 : zi_chk zi_T 9 (zi_sp zi_T 9 32) (zi_bk zi_T 9 32) = true := by decide +kernel
theorem zk_9 : ∀ b, zi_chk zi_T 9 (zi_sp zi_T 9 b) (zi_bk zi_T 9 b) = true := fun b => match b with
  | 0 => zk_9_0
  | 1 => zk_9_1
  | 2 => zk_9_2
  | 3 => zk_9_3
  | 4 => zk_9_4
  | 5 => zk_9_5
  | 6 => zk_9_6
  | 7 => zk_9_7
  | 8 => zk_9_8
  | 9 => zk_9_9
  | 10 => zk_9_10
  | 11 => zk_9_11
  | 12 => zk_9_12
  | 13 => zk_9_13
  | 14 => zk_9_14
  | 15 => zk_9_15
  | 16 => zk_9_16
  | 17 => zk_9_17
  | 18 => zk_9_18
  | 19 => zk_9_19
  | 20 => zk_9_20
  | 21 => zk_9_21
  | 22 => zk_9_22
  | 23 => zk_9_23
  | 24 => zk_9_24
  | 25 => zk_9_25
  | 26 => zk_9_26
  | 27 => zk_9_27
  | 28 => zk_9_28
  | 29 => zk_9_29
  | 30 => zk_9_30
  | 31 => zk_9_31
  | 32 => zk_9_32
  | _ + 33 => rfl
