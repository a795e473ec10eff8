/-! the kernel's check of the methods, by program -/
set_option maxRecDepth 100000 in
theorem zk_135_a : (List.range 3).all (fun b => zi_chk zi_T 135 (zi_sp zi_T 135 b) (zi_bk zi_T 135 b)) = true := by decide +kernel
theorem zk_135 : ∀ b, zi_chk zi_T 135 (zi_sp zi_T 135 b) (zi_bk zi_T 135 b) = true := zi_allof zk_135_a rfl
set_option maxRecDepth 100000 in
theorem zk_136_a : (List.range 11).all (fun b => zi_chk zi_T 136 (zi_sp zi_T 136 b) (zi_bk zi_T 136 b)) = true := by decide +kernel
theorem zk_136 : ∀ b, zi_chk zi_T 136 (zi_sp zi_T 136 b) (zi_bk zi_T 136 b) = true := zi_allof zk_136_a rfl
set_option maxRecDepth 100000 in
theorem zk_137_a : (List.range 8).all (fun b => zi_chk zi_T 137 (zi_sp zi_T 137 b) (zi_bk zi_T 137 b)) = true := by decide +kernel
theorem zk_137 : ∀ b, zi_chk zi_T 137 (zi_sp zi_T 137 b) (zi_bk zi_T 137 b) = true := zi_allof zk_137_a rfl
set_option maxRecDepth 100000 in
theorem zk_138_a : (List.range 9).all (fun b => zi_chk zi_T 138 (zi_sp zi_T 138 b) (zi_bk zi_T 138 b)) = true := by decide +kernel
theorem zk_138 : ∀ b, zi_chk zi_T 138 (zi_sp zi_T 138 b) (zi_bk zi_T 138 b) = true := zi_allof zk_138_a rfl
set_option maxRecDepth 100000 in
theorem zk_139_a : (List.range 3).all (fun b => zi_chk zi_T 139 (zi_sp zi_T 139 b) (zi_bk zi_T 139 b)) = true := by decide +kernel
theorem zk_139 : ∀ b, zi_chk zi_T 139 (zi_sp zi_T 139 b) (zi_bk zi_T 139 b) = true := zi_allof zk_139_a rfl
set_option maxRecDepth 100000 in
theorem zk_140_a : (List.range 1).all (fun b => zi_chk zi_T 140 (zi_sp zi_T 140 b) (zi_bk zi_T 140 b)) = true := by decide +kernel
theorem zk_140 : ∀ b, zi_chk zi_T 140 (zi_sp zi_T 140 b) (zi_bk zi_T 140 b) = true := zi_allof zk_140_a rfl
set_option maxRecDepth 100000 in
theorem zk_141_a : (List.range 15).all (fun b => zi_chk zi_T 141 (zi_sp zi_T 141 b) (zi_bk zi_T 141 b)) = true := by decide +kernel
theorem zk_141 : ∀ b, zi_chk zi_T 141 (zi_sp zi_T 141 b) (zi_bk zi_T 141 b) = true := zi_allof zk_141_a rfl
set_option maxRecDepth 100000 in
theorem zk_142_a : (List.range 3).all (fun b => zi_chk zi_T 142 (zi_sp zi_T 142 b) (zi_bk zi_T 142 b)) = true := by decide +kernel
theorem zk_142 : ∀ b, zi_chk zi_T 142 (zi_sp zi_T 142 b) (zi_bk zi_T 142 b) = true := zi_allof zk_142_a rfl
set_option maxRecDepth 100000 in
theorem zk_143_a : (List.range 5).all (fun b => zi_chk zi_T 143 (zi_sp zi_T 143 b) (zi_bk zi_T 143 b)) = true := by decide +kernel
theorem zk_143 : ∀ b, zi_chk zi_T 143 (zi_sp zi_T 143 b) (zi_bk zi_T 143 b) = true := zi_allof zk_143_a rfl
set_option maxRecDepth 100000 in
theorem zk_144_a : (List.range 5).all (fun b => zi_chk zi_T 144 (zi_sp zi_T 144 b) (zi_bk zi_T 144 b)) = true := by decide +kernel
theorem zk_144 : ∀ b, zi_chk zi_T 144 (zi_sp zi_T 144 b) (zi_bk zi_T 144 b) = true := zi_allof zk_144_a rfl
set_option maxRecDepth 100000 in
theorem zk_145_a : (List.range 12).all (fun b => zi_chk zi_T 145 (zi_sp zi_T 145 b) (zi_bk zi_T 145 b)) = true := by decide +kernel
theorem zk_145 : ∀ b, zi_chk zi_T 145 (zi_sp zi_T 145 b) (zi_bk zi_T 145 b) = true := zi_allof zk_145_a rfl
set_option maxRecDepth 100000 in
theorem zk_146_a : (List.range 4).all (fun b => zi_chk zi_T 146 (zi_sp zi_T 146 b) (zi_bk zi_T 146 b)) = true := by decide +kernel
theorem zk_146 : ∀ b, zi_chk zi_T 146 (zi_sp zi_T 146 b) (zi_bk zi_T 146 b) = true := zi_allof zk_146_a rfl
set_option maxRecDepth 100000 in
theorem zk_147_a : (List.range 12).all (fun b => zi_chk zi_T 147 (zi_sp zi_T 147 b) (zi_bk zi_T 147 b)) = true := by decide +kernel
theorem zk_147 : ∀ b, zi_chk zi_T 147 (zi_sp zi_T 147 b) (zi_bk zi_T 147 b) = true := zi_allof zk_147_a rfl
set_option maxRecDepth 100000 in
theorem zk_148_a : (List.range 10).all (fun b => zi_chk zi_T 148 (zi_sp zi_T 148 b) (zi_bk zi_T 148 b)) = true := by decide +kernel
theorem zk_148 : ∀ b, zi_chk zi_T 148 (zi_sp zi_T 148 b) (zi_bk zi_T 148 b) = true := zi_allof zk_148_a rfl
set_option maxRecDepth 100000 in
theorem zk_149_a : (List.range 2).all (fun b => zi_chk zi_T 149 (zi_sp zi_T 149 b) (zi_bk zi_T 149 b)) = true := by decide +kernel
theorem zk_149 : ∀ b, zi_chk zi_T 149 (zi_sp zi_T 149 b) (zi_bk zi_T 149 b) = true := zi_allof zk_149_a rfl
set_option maxRecDepth 100000 in
theorem zk_150_a : (List.range 12).all (fun b => zi_chk zi_T 150 (zi_sp zi_T 150 b) (zi_bk zi_T 150 b)) = true := by decide +kernel
theorem zk_150 : ∀ b, zi_chk zi_T 150 (zi_sp zi_T 150 b) (zi_bk zi_T 150 b) = true := zi_allof zk_150_a rfl
set_option maxRecDepth 100000 in
theorem zk_151_a : (List.range 11).all (fun b => zi_chk zi_T 151 (zi_sp zi_T 151 b) (zi_bk zi_T 151 b)) = true := by decide +kernel
theorem zk_151 : ∀ b, zi_chk zi_T 151 (zi_sp zi_T 151 b) (zi_bk zi_T 151 b) = true := zi_allof zk_151_a rfl
set_option maxRecDepth 100000 in
theorem zk_152_a : (List.range 18).all (fun b => zi_chk zi_T 152 (zi_sp zi_T 152 b) (zi_bk zi_T 152 b)) = true := by decide +kernel
theorem zk_152 : ∀ b, zi_chk zi_T 152 (zi_sp zi_T 152 b) (zi_bk zi_T 152 b) = true := zi_allof zk_152_a rfl
