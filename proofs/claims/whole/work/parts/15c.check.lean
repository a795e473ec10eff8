/-! the kernel's check of the methods, by program -/
set_option maxRecDepth 100000 in
theorem zk_54_a : (List.range 3).all (fun b => zi_chk zi_T 54 (zi_sp zi_T 54 b) (zi_bk zi_T 54 b)) = true := by decide +kernel
theorem zk_54 : ∀ b, zi_chk zi_T 54 (zi_sp zi_T 54 b) (zi_bk zi_T 54 b) = true := zi_allof zk_54_a rfl
set_option maxRecDepth 100000 in
theorem zk_55_a : (List.range 3).all (fun b => zi_chk zi_T 55 (zi_sp zi_T 55 b) (zi_bk zi_T 55 b)) = true := by decide +kernel
theorem zk_55 : ∀ b, zi_chk zi_T 55 (zi_sp zi_T 55 b) (zi_bk zi_T 55 b) = true := zi_allof zk_55_a rfl
set_option maxRecDepth 100000 in
theorem zk_56_a : (List.range 5).all (fun b => zi_chk zi_T 56 (zi_sp zi_T 56 b) (zi_bk zi_T 56 b)) = true := by decide +kernel
theorem zk_56 : ∀ b, zi_chk zi_T 56 (zi_sp zi_T 56 b) (zi_bk zi_T 56 b) = true := zi_allof zk_56_a rfl
set_option maxRecDepth 100000 in
theorem zk_57_a : (List.range 5).all (fun b => zi_chk zi_T 57 (zi_sp zi_T 57 b) (zi_bk zi_T 57 b)) = true := by decide +kernel
theorem zk_57 : ∀ b, zi_chk zi_T 57 (zi_sp zi_T 57 b) (zi_bk zi_T 57 b) = true := zi_allof zk_57_a rfl
set_option maxRecDepth 100000 in
theorem zk_58_a : (List.range 7).all (fun b => zi_chk zi_T 58 (zi_sp zi_T 58 b) (zi_bk zi_T 58 b)) = true := by decide +kernel
theorem zk_58 : ∀ b, zi_chk zi_T 58 (zi_sp zi_T 58 b) (zi_bk zi_T 58 b) = true := zi_allof zk_58_a rfl
set_option maxRecDepth 100000 in
theorem zk_59_a : (List.range 6).all (fun b => zi_chk zi_T 59 (zi_sp zi_T 59 b) (zi_bk zi_T 59 b)) = true := by decide +kernel
theorem zk_59 : ∀ b, zi_chk zi_T 59 (zi_sp zi_T 59 b) (zi_bk zi_T 59 b) = true := zi_allof zk_59_a rfl
set_option maxRecDepth 100000 in
theorem zk_60_a : (List.range 12).all (fun b => zi_chk zi_T 60 (zi_sp zi_T 60 b) (zi_bk zi_T 60 b)) = true := by decide +kernel
theorem zk_60 : ∀ b, zi_chk zi_T 60 (zi_sp zi_T 60 b) (zi_bk zi_T 60 b) = true := zi_allof zk_60_a rfl
set_option maxRecDepth 100000 in
theorem zk_61_a : (List.range 3).all (fun b => zi_chk zi_T 61 (zi_sp zi_T 61 b) (zi_bk zi_T 61 b)) = true := by decide +kernel
theorem zk_61 : ∀ b, zi_chk zi_T 61 (zi_sp zi_T 61 b) (zi_bk zi_T 61 b) = true := zi_allof zk_61_a rfl
set_option maxRecDepth 100000 in
theorem zk_62_a : (List.range 3).all (fun b => zi_chk zi_T 62 (zi_sp zi_T 62 b) (zi_bk zi_T 62 b)) = true := by decide +kernel
theorem zk_62 : ∀ b, zi_chk zi_T 62 (zi_sp zi_T 62 b) (zi_bk zi_T 62 b) = true := zi_allof zk_62_a rfl
set_option maxRecDepth 100000 in
theorem zk_63_a : (List.range 11).all (fun b => zi_chk zi_T 63 (zi_sp zi_T 63 b) (zi_bk zi_T 63 b)) = true := by decide +kernel
theorem zk_63 : ∀ b, zi_chk zi_T 63 (zi_sp zi_T 63 b) (zi_bk zi_T 63 b) = true := zi_allof zk_63_a rfl
set_option maxRecDepth 100000 in
theorem zk_64_a : (List.range 3).all (fun b => zi_chk zi_T 64 (zi_sp zi_T 64 b) (zi_bk zi_T 64 b)) = true := by decide +kernel
theorem zk_64 : ∀ b, zi_chk zi_T 64 (zi_sp zi_T 64 b) (zi_bk zi_T 64 b) = true := zi_allof zk_64_a rfl
set_option maxRecDepth 100000 in
theorem zk_65_a : (List.range 13).all (fun b => zi_chk zi_T 65 (zi_sp zi_T 65 b) (zi_bk zi_T 65 b)) = true := by decide +kernel
theorem zk_65 : ∀ b, zi_chk zi_T 65 (zi_sp zi_T 65 b) (zi_bk zi_T 65 b) = true := zi_allof zk_65_a rfl
set_option maxRecDepth 100000 in
theorem zk_66_a : (List.range 4).all (fun b => zi_chk zi_T 66 (zi_sp zi_T 66 b) (zi_bk zi_T 66 b)) = true := by decide +kernel
theorem zk_66 : ∀ b, zi_chk zi_T 66 (zi_sp zi_T 66 b) (zi_bk zi_T 66 b) = true := zi_allof zk_66_a rfl
set_option maxRecDepth 100000 in
theorem zk_67_a : (List.range 10).all (fun b => zi_chk zi_T 67 (zi_sp zi_T 67 b) (zi_bk zi_T 67 b)) = true := by decide +kernel
theorem zk_67 : ∀ b, zi_chk zi_T 67 (zi_sp zi_T 67 b) (zi_bk zi_T 67 b) = true := zi_allof zk_67_a rfl
set_option maxRecDepth 100000 in
theorem zk_68_a : (List.range 6).all (fun b => zi_chk zi_T 68 (zi_sp zi_T 68 b) (zi_bk zi_T 68 b)) = true := by decide +kernel
theorem zk_68 : ∀ b, zi_chk zi_T 68 (zi_sp zi_T 68 b) (zi_bk zi_T 68 b) = true := zi_allof zk_68_a rfl
set_option maxRecDepth 100000 in
theorem zk_69_a : (List.range 3).all (fun b => zi_chk zi_T 69 (zi_sp zi_T 69 b) (zi_bk zi_T 69 b)) = true := by decide +kernel
theorem zk_69 : ∀ b, zi_chk zi_T 69 (zi_sp zi_T 69 b) (zi_bk zi_T 69 b) = true := zi_allof zk_69_a rfl
set_option maxRecDepth 100000 in
theorem zk_70_a : (List.range 6).all (fun b => zi_chk zi_T 70 (zi_sp zi_T 70 b) (zi_bk zi_T 70 b)) = true := by decide +kernel
theorem zk_70 : ∀ b, zi_chk zi_T 70 (zi_sp zi_T 70 b) (zi_bk zi_T 70 b) = true := zi_allof zk_70_a rfl
set_option maxRecDepth 100000 in
theorem zk_71_a : (List.range 6).all (fun b => zi_chk zi_T 71 (zi_sp zi_T 71 b) (zi_bk zi_T 71 b)) = true := by decide +kernel
theorem zk_71 : ∀ b, zi_chk zi_T 71 (zi_sp zi_T 71 b) (zi_bk zi_T 71 b) = true := zi_allof zk_71_a rfl
set_option maxRecDepth 100000 in
theorem zk_72_a : (List.range 3).all (fun b => zi_chk zi_T 72 (zi_sp zi_T 72 b) (zi_bk zi_T 72 b)) = true := by decide +kernel
theorem zk_72 : ∀ b, zi_chk zi_T 72 (zi_sp zi_T 72 b) (zi_bk zi_T 72 b) = true := zi_allof zk_72_a rfl
set_option maxRecDepth 100000 in
theorem zk_73_a : (List.range 4).all (fun b => zi_chk zi_T 73 (zi_sp zi_T 73 b) (zi_bk zi_T 73 b)) = true := by decide +kernel
theorem zk_73 : ∀ b, zi_chk zi_T 73 (zi_sp zi_T 73 b) (zi_bk zi_T 73 b) = true := zi_allof zk_73_a rfl
set_option maxRecDepth 100000 in
theorem zk_74_a : (List.range 4).all (fun b => zi_chk zi_T 74 (zi_sp zi_T 74 b) (zi_bk zi_T 74 b)) = true := by decide +kernel
theorem zk_74 : ∀ b, zi_chk zi_T 74 (zi_sp zi_T 74 b) (zi_bk zi_T 74 b) = true := zi_allof zk_74_a rfl
set_option maxRecDepth 100000 in
theorem zk_75_a : (List.range 5).all (fun b => zi_chk zi_T 75 (zi_sp zi_T 75 b) (zi_bk zi_T 75 b)) = true := by decide +kernel
theorem zk_75 : ∀ b, zi_chk zi_T 75 (zi_sp zi_T 75 b) (zi_bk zi_T 75 b) = true := zi_allof zk_75_a rfl
set_option maxRecDepth 100000 in
theorem zk_76_a : (List.range 7).all (fun b => zi_chk zi_T 76 (zi_sp zi_T 76 b) (zi_bk zi_T 76 b)) = true := by decide +kernel
theorem zk_76 : ∀ b, zi_chk zi_T 76 (zi_sp zi_T 76 b) (zi_bk zi_T 76 b) = true := zi_allof zk_76_a rfl
set_option maxRecDepth 100000 in
theorem zk_77_a : (List.range 5).all (fun b => zi_chk zi_T 77 (zi_sp zi_T 77 b) (zi_bk zi_T 77 b)) = true := by decide +kernel
theorem zk_77 : ∀ b, zi_chk zi_T 77 (zi_sp zi_T 77 b) (zi_bk zi_T 77 b) = true := zi_allof zk_77_a rfl
set_option maxRecDepth 100000 in
theorem zk_78_a : (List.range 4).all (fun b => zi_chk zi_T 78 (zi_sp zi_T 78 b) (zi_bk zi_T 78 b)) = true := by decide +kernel
theorem zk_78 : ∀ b, zi_chk zi_T 78 (zi_sp zi_T 78 b) (zi_bk zi_T 78 b) = true := zi_allof zk_78_a rfl
set_option maxRecDepth 100000 in
theorem zk_79_a : (List.range 4).all (fun b => zi_chk zi_T 79 (zi_sp zi_T 79 b) (zi_bk zi_T 79 b)) = true := by decide +kernel
theorem zk_79 : ∀ b, zi_chk zi_T 79 (zi_sp zi_T 79 b) (zi_bk zi_T 79 b) = true := zi_allof zk_79_a rfl
set_option maxRecDepth 100000 in
theorem zk_80_a : (List.range 5).all (fun b => zi_chk zi_T 80 (zi_sp zi_T 80 b) (zi_bk zi_T 80 b)) = true := by decide +kernel
theorem zk_80 : ∀ b, zi_chk zi_T 80 (zi_sp zi_T 80 b) (zi_bk zi_T 80 b) = true := zi_allof zk_80_a rfl
set_option maxRecDepth 100000 in
theorem zk_81_a : (List.range 8).all (fun b => zi_chk zi_T 81 (zi_sp zi_T 81 b) (zi_bk zi_T 81 b)) = true := by decide +kernel
theorem zk_81 : ∀ b, zi_chk zi_T 81 (zi_sp zi_T 81 b) (zi_bk zi_T 81 b) = true := zi_allof zk_81_a rfl
set_option maxRecDepth 100000 in
theorem zk_82_a : (List.range 5).all (fun b => zi_chk zi_T 82 (zi_sp zi_T 82 b) (zi_bk zi_T 82 b)) = true := by decide +kernel
theorem zk_82 : ∀ b, zi_chk zi_T 82 (zi_sp zi_T 82 b) (zi_bk zi_T 82 b) = true := zi_allof zk_82_a rfl
set_option maxRecDepth 100000 in
theorem zk_83_a : (List.range 4).all (fun b => zi_chk zi_T 83 (zi_sp zi_T 83 b) (zi_bk zi_T 83 b)) = true := by decide +kernel
theorem zk_83 : ∀ b, zi_chk zi_T 83 (zi_sp zi_T 83 b) (zi_bk zi_T 83 b) = true := zi_allof zk_83_a rfl
set_option maxRecDepth 100000 in
theorem zk_84_a : (List.range 4).all (fun b => zi_chk zi_T 84 (zi_sp zi_T 84 b) (zi_bk zi_T 84 b)) = true := by decide +kernel
theorem zk_84 : ∀ b, zi_chk zi_T 84 (zi_sp zi_T 84 b) (zi_bk zi_T 84 b) = true := zi_allof zk_84_a rfl
