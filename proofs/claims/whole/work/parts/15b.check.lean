/-! the kernel's check of the methods, by program -/
set_option maxRecDepth 100000 in
theorem zk_10_a : (List.range 3).all (fun b => zi_chk zi_T 10 (zi_sp zi_T 10 b) (zi_bk zi_T 10 b)) = true := by decide +kernel
theorem zk_10 : ∀ b, zi_chk zi_T 10 (zi_sp zi_T 10 b) (zi_bk zi_T 10 b) = true := zi_allof zk_10_a rfl
set_option maxRecDepth 100000 in
theorem zk_11_a : (List.range 3).all (fun b => zi_chk zi_T 11 (zi_sp zi_T 11 b) (zi_bk zi_T 11 b)) = true := by decide +kernel
theorem zk_11 : ∀ b, zi_chk zi_T 11 (zi_sp zi_T 11 b) (zi_bk zi_T 11 b) = true := zi_allof zk_11_a rfl
set_option maxRecDepth 100000 in
theorem zk_12_a : (List.range 5).all (fun b => zi_chk zi_T 12 (zi_sp zi_T 12 b) (zi_bk zi_T 12 b)) = true := by decide +kernel
theorem zk_12 : ∀ b, zi_chk zi_T 12 (zi_sp zi_T 12 b) (zi_bk zi_T 12 b) = true := zi_allof zk_12_a rfl
set_option maxRecDepth 100000 in
theorem zk_13_a : (List.range 9).all (fun b => zi_chk zi_T 13 (zi_sp zi_T 13 b) (zi_bk zi_T 13 b)) = true := by decide +kernel
theorem zk_13 : ∀ b, zi_chk zi_T 13 (zi_sp zi_T 13 b) (zi_bk zi_T 13 b) = true := zi_allof zk_13_a rfl
set_option maxRecDepth 100000 in
theorem zk_14_a : (List.range 9).all (fun b => zi_chk zi_T 14 (zi_sp zi_T 14 b) (zi_bk zi_T 14 b)) = true := by decide +kernel
theorem zk_14 : ∀ b, zi_chk zi_T 14 (zi_sp zi_T 14 b) (zi_bk zi_T 14 b) = true := zi_allof zk_14_a rfl
set_option maxRecDepth 100000 in
theorem zk_15_a : (List.range 3).all (fun b => zi_chk zi_T 15 (zi_sp zi_T 15 b) (zi_bk zi_T 15 b)) = true := by decide +kernel
theorem zk_15 : ∀ b, zi_chk zi_T 15 (zi_sp zi_T 15 b) (zi_bk zi_T 15 b) = true := zi_allof zk_15_a rfl
set_option maxRecDepth 100000 in
theorem zk_16_a : (List.range 3).all (fun b => zi_chk zi_T 16 (zi_sp zi_T 16 b) (zi_bk zi_T 16 b)) = true := by decide +kernel
theorem zk_16 : ∀ b, zi_chk zi_T 16 (zi_sp zi_T 16 b) (zi_bk zi_T 16 b) = true := zi_allof zk_16_a rfl
set_option maxRecDepth 100000 in
theorem zk_17_a : (List.range 3).all (fun b => zi_chk zi_T 17 (zi_sp zi_T 17 b) (zi_bk zi_T 17 b)) = true := by decide +kernel
theorem zk_17 : ∀ b, zi_chk zi_T 17 (zi_sp zi_T 17 b) (zi_bk zi_T 17 b) = true := zi_allof zk_17_a rfl
set_option maxRecDepth 100000 in
theorem zk_18_a : (List.range 3).all (fun b => zi_chk zi_T 18 (zi_sp zi_T 18 b) (zi_bk zi_T 18 b)) = true := by decide +kernel
theorem zk_18 : ∀ b, zi_chk zi_T 18 (zi_sp zi_T 18 b) (zi_bk zi_T 18 b) = true := zi_allof zk_18_a rfl
set_option maxRecDepth 100000 in
theorem zk_19_a : (List.range 3).all (fun b => zi_chk zi_T 19 (zi_sp zi_T 19 b) (zi_bk zi_T 19 b)) = true := by decide +kernel
theorem zk_19 : ∀ b, zi_chk zi_T 19 (zi_sp zi_T 19 b) (zi_bk zi_T 19 b) = true := zi_allof zk_19_a rfl
set_option maxRecDepth 100000 in
theorem zk_20_a : (List.range 4).all (fun b => zi_chk zi_T 20 (zi_sp zi_T 20 b) (zi_bk zi_T 20 b)) = true := by decide +kernel
theorem zk_20 : ∀ b, zi_chk zi_T 20 (zi_sp zi_T 20 b) (zi_bk zi_T 20 b) = true := zi_allof zk_20_a rfl
set_option maxRecDepth 100000 in
theorem zk_21_a : (List.range 3).all (fun b => zi_chk zi_T 21 (zi_sp zi_T 21 b) (zi_bk zi_T 21 b)) = true := by decide +kernel
theorem zk_21 : ∀ b, zi_chk zi_T 21 (zi_sp zi_T 21 b) (zi_bk zi_T 21 b) = true := zi_allof zk_21_a rfl
set_option maxRecDepth 100000 in
theorem zk_22_a : (List.range 4).all (fun b => zi_chk zi_T 22 (zi_sp zi_T 22 b) (zi_bk zi_T 22 b)) = true := by decide +kernel
theorem zk_22 : ∀ b, zi_chk zi_T 22 (zi_sp zi_T 22 b) (zi_bk zi_T 22 b) = true := zi_allof zk_22_a rfl
set_option maxRecDepth 100000 in
theorem zk_23_a : (List.range 3).all (fun b => zi_chk zi_T 23 (zi_sp zi_T 23 b) (zi_bk zi_T 23 b)) = true := by decide +kernel
theorem zk_23 : ∀ b, zi_chk zi_T 23 (zi_sp zi_T 23 b) (zi_bk zi_T 23 b) = true := zi_allof zk_23_a rfl
set_option maxRecDepth 100000 in
theorem zk_24_a : (List.range 6).all (fun b => zi_chk zi_T 24 (zi_sp zi_T 24 b) (zi_bk zi_T 24 b)) = true := by decide +kernel
theorem zk_24 : ∀ b, zi_chk zi_T 24 (zi_sp zi_T 24 b) (zi_bk zi_T 24 b) = true := zi_allof zk_24_a rfl
set_option maxRecDepth 100000 in
theorem zk_25_a : (List.range 4).all (fun b => zi_chk zi_T 25 (zi_sp zi_T 25 b) (zi_bk zi_T 25 b)) = true := by decide +kernel
theorem zk_25 : ∀ b, zi_chk zi_T 25 (zi_sp zi_T 25 b) (zi_bk zi_T 25 b) = true := zi_allof zk_25_a rfl
set_option maxRecDepth 100000 in
theorem zk_26_a : (List.range 2).all (fun b => zi_chk zi_T 26 (zi_sp zi_T 26 b) (zi_bk zi_T 26 b)) = true := by decide +kernel
theorem zk_26 : ∀ b, zi_chk zi_T 26 (zi_sp zi_T 26 b) (zi_bk zi_T 26 b) = true := zi_allof zk_26_a rfl
set_option maxRecDepth 100000 in
theorem zk_27_a : (List.range 3).all (fun b => zi_chk zi_T 27 (zi_sp zi_T 27 b) (zi_bk zi_T 27 b)) = true := by decide +kernel
theorem zk_27 : ∀ b, zi_chk zi_T 27 (zi_sp zi_T 27 b) (zi_bk zi_T 27 b) = true := zi_allof zk_27_a rfl
set_option maxRecDepth 100000 in
theorem zk_28_a : (List.range 4).all (fun b => zi_chk zi_T 28 (zi_sp zi_T 28 b) (zi_bk zi_T 28 b)) = true := by decide +kernel
theorem zk_28 : ∀ b, zi_chk zi_T 28 (zi_sp zi_T 28 b) (zi_bk zi_T 28 b) = true := zi_allof zk_28_a rfl
set_option maxRecDepth 100000 in
theorem zk_29_a : (List.range 5).all (fun b => zi_chk zi_T 29 (zi_sp zi_T 29 b) (zi_bk zi_T 29 b)) = true := by decide +kernel
theorem zk_29 : ∀ b, zi_chk zi_T 29 (zi_sp zi_T 29 b) (zi_bk zi_T 29 b) = true := zi_allof zk_29_a rfl
set_option maxRecDepth 100000 in
theorem zk_30_a : (List.range 4).all (fun b => zi_chk zi_T 30 (zi_sp zi_T 30 b) (zi_bk zi_T 30 b)) = true := by decide +kernel
theorem zk_30 : ∀ b, zi_chk zi_T 30 (zi_sp zi_T 30 b) (zi_bk zi_T 30 b) = true := zi_allof zk_30_a rfl
set_option maxRecDepth 100000 in
theorem zk_31_a : (List.range 4).all (fun b => zi_chk zi_T 31 (zi_sp zi_T 31 b) (zi_bk zi_T 31 b)) = true := by decide +kernel
theorem zk_31 : ∀ b, zi_chk zi_T 31 (zi_sp zi_T 31 b) (zi_bk zi_T 31 b) = true := zi_allof zk_31_a rfl
set_option maxRecDepth 100000 in
theorem zk_32_a : (List.range 7).all (fun b => zi_chk zi_T 32 (zi_sp zi_T 32 b) (zi_bk zi_T 32 b)) = true := by decide +kernel
theorem zk_32 : ∀ b, zi_chk zi_T 32 (zi_sp zi_T 32 b) (zi_bk zi_T 32 b) = true := zi_allof zk_32_a rfl
set_option maxRecDepth 100000 in
theorem zk_33_a : (List.range 5).all (fun b => zi_chk zi_T 33 (zi_sp zi_T 33 b) (zi_bk zi_T 33 b)) = true := by decide +kernel
theorem zk_33 : ∀ b, zi_chk zi_T 33 (zi_sp zi_T 33 b) (zi_bk zi_T 33 b) = true := zi_allof zk_33_a rfl
set_option maxRecDepth 100000 in
theorem zk_34_a : (List.range 2).all (fun b => zi_chk zi_T 34 (zi_sp zi_T 34 b) (zi_bk zi_T 34 b)) = true := by decide +kernel
theorem zk_34 : ∀ b, zi_chk zi_T 34 (zi_sp zi_T 34 b) (zi_bk zi_T 34 b) = true := zi_allof zk_34_a rfl
set_option maxRecDepth 100000 in
theorem zk_35_a : (List.range 5).all (fun b => zi_chk zi_T 35 (zi_sp zi_T 35 b) (zi_bk zi_T 35 b)) = true := by decide +kernel
theorem zk_35 : ∀ b, zi_chk zi_T 35 (zi_sp zi_T 35 b) (zi_bk zi_T 35 b) = true := zi_allof zk_35_a rfl
set_option maxRecDepth 100000 in
theorem zk_36_a : (List.range 1).all (fun b => zi_chk zi_T 36 (zi_sp zi_T 36 b) (zi_bk zi_T 36 b)) = true := by decide +kernel
theorem zk_36 : ∀ b, zi_chk zi_T 36 (zi_sp zi_T 36 b) (zi_bk zi_T 36 b) = true := zi_allof zk_36_a rfl
set_option maxRecDepth 100000 in
theorem zk_37_a : (List.range 3).all (fun b => zi_chk zi_T 37 (zi_sp zi_T 37 b) (zi_bk zi_T 37 b)) = true := by decide +kernel
theorem zk_37 : ∀ b, zi_chk zi_T 37 (zi_sp zi_T 37 b) (zi_bk zi_T 37 b) = true := zi_allof zk_37_a rfl
set_option maxRecDepth 100000 in
theorem zk_38_a : (List.range 3).all (fun b => zi_chk zi_T 38 (zi_sp zi_T 38 b) (zi_bk zi_T 38 b)) = true := by decide +kernel
theorem zk_38 : ∀ b, zi_chk zi_T 38 (zi_sp zi_T 38 b) (zi_bk zi_T 38 b) = true := zi_allof zk_38_a rfl
set_option maxRecDepth 100000 in
theorem zk_39_a : (List.range 1).all (fun b => zi_chk zi_T 39 (zi_sp zi_T 39 b) (zi_bk zi_T 39 b)) = true := by decide +kernel
theorem zk_39 : ∀ b, zi_chk zi_T 39 (zi_sp zi_T 39 b) (zi_bk zi_T 39 b) = true := zi_allof zk_39_a rfl
set_option maxRecDepth 100000 in
theorem zk_40_a : (List.range 7).all (fun b => zi_chk zi_T 40 (zi_sp zi_T 40 b) (zi_bk zi_T 40 b)) = true := by decide +kernel
theorem zk_40 : ∀ b, zi_chk zi_T 40 (zi_sp zi_T 40 b) (zi_bk zi_T 40 b) = true := zi_allof zk_40_a rfl
set_option maxRecDepth 100000 in
theorem zk_41_a : (List.range 4).all (fun b => zi_chk zi_T 41 (zi_sp zi_T 41 b) (zi_bk zi_T 41 b)) = true := by decide +kernel
theorem zk_41 : ∀ b, zi_chk zi_T 41 (zi_sp zi_T 41 b) (zi_bk zi_T 41 b) = true := zi_allof zk_41_a rfl
set_option maxRecDepth 100000 in
theorem zk_42_a : (List.range 1).all (fun b => zi_chk zi_T 42 (zi_sp zi_T 42 b) (zi_bk zi_T 42 b)) = true := by decide +kernel
theorem zk_42 : ∀ b, zi_chk zi_T 42 (zi_sp zi_T 42 b) (zi_bk zi_T 42 b) = true := zi_allof zk_42_a rfl
set_option maxRecDepth 100000 in
theorem zk_43_a : (List.range 1).all (fun b => zi_chk zi_T 43 (zi_sp zi_T 43 b) (zi_bk zi_T 43 b)) = true := by decide +kernel
theorem zk_43 : ∀ b, zi_chk zi_T 43 (zi_sp zi_T 43 b) (zi_bk zi_T 43 b) = true := zi_allof zk_43_a rfl
set_option maxRecDepth 100000 in
theorem zk_44_a : (List.range 3).all (fun b => zi_chk zi_T 44 (zi_sp zi_T 44 b) (zi_bk zi_T 44 b)) = true := by decide +kernel
theorem zk_44 : ∀ b, zi_chk zi_T 44 (zi_sp zi_T 44 b) (zi_bk zi_T 44 b) = true := zi_allof zk_44_a rfl
set_option maxRecDepth 100000 in
theorem zk_45_a : (List.range 4).all (fun b => zi_chk zi_T 45 (zi_sp zi_T 45 b) (zi_bk zi_T 45 b)) = true := by decide +kernel
theorem zk_45 : ∀ b, zi_chk zi_T 45 (zi_sp zi_T 45 b) (zi_bk zi_T 45 b) = true := zi_allof zk_45_a rfl
set_option maxRecDepth 100000 in
theorem zk_46_a : (List.range 4).all (fun b => zi_chk zi_T 46 (zi_sp zi_T 46 b) (zi_bk zi_T 46 b)) = true := by decide +kernel
theorem zk_46 : ∀ b, zi_chk zi_T 46 (zi_sp zi_T 46 b) (zi_bk zi_T 46 b) = true := zi_allof zk_46_a rfl
set_option maxRecDepth 100000 in
theorem zk_47_a : (List.range 6).all (fun b => zi_chk zi_T 47 (zi_sp zi_T 47 b) (zi_bk zi_T 47 b)) = true := by decide +kernel
theorem zk_47 : ∀ b, zi_chk zi_T 47 (zi_sp zi_T 47 b) (zi_bk zi_T 47 b) = true := zi_allof zk_47_a rfl
set_option maxRecDepth 100000 in
theorem zk_48_a : (List.range 6).all (fun b => zi_chk zi_T 48 (zi_sp zi_T 48 b) (zi_bk zi_T 48 b)) = true := by decide +kernel
theorem zk_48 : ∀ b, zi_chk zi_T 48 (zi_sp zi_T 48 b) (zi_bk zi_T 48 b) = true := zi_allof zk_48_a rfl
set_option maxRecDepth 100000 in
theorem zk_49_a : (List.range 9).all (fun b => zi_chk zi_T 49 (zi_sp zi_T 49 b) (zi_bk zi_T 49 b)) = true := by decide +kernel
theorem zk_49 : ∀ b, zi_chk zi_T 49 (zi_sp zi_T 49 b) (zi_bk zi_T 49 b) = true := zi_allof zk_49_a rfl
set_option maxRecDepth 100000 in
theorem zk_50_a : (List.range 3).all (fun b => zi_chk zi_T 50 (zi_sp zi_T 50 b) (zi_bk zi_T 50 b)) = true := by decide +kernel
theorem zk_50 : ∀ b, zi_chk zi_T 50 (zi_sp zi_T 50 b) (zi_bk zi_T 50 b) = true := zi_allof zk_50_a rfl
set_option maxRecDepth 100000 in
theorem zk_51_a : (List.range 2).all (fun b => zi_chk zi_T 51 (zi_sp zi_T 51 b) (zi_bk zi_T 51 b)) = true := by decide +kernel
theorem zk_51 : ∀ b, zi_chk zi_T 51 (zi_sp zi_T 51 b) (zi_bk zi_T 51 b) = true := zi_allof zk_51_a rfl
set_option maxRecDepth 100000 in
theorem zk_52_a : (List.range 3).all (fun b => zi_chk zi_T 52 (zi_sp zi_T 52 b) (zi_bk zi_T 52 b)) = true := by decide +kernel
theorem zk_52 : ∀ b, zi_chk zi_T 52 (zi_sp zi_T 52 b) (zi_bk zi_T 52 b) = true := zi_allof zk_52_a rfl
set_option maxRecDepth 100000 in
theorem zk_53_a : (List.range 3).all (fun b => zi_chk zi_T 53 (zi_sp zi_T 53 b) (zi_bk zi_T 53 b)) = true := by decide +kernel
theorem zk_53 : ∀ b, zi_chk zi_T 53 (zi_sp zi_T 53 b) (zi_bk zi_T 53 b) = true := zi_allof zk_53_a rfl
