/-! the kernel's check of the methods, by program -/
set_option maxRecDepth 100000 in
theorem zk_153_a : (List.range 7).all (fun b => zi_chk zi_T 153 (zi_sp zi_T 153 b) (zi_bk zi_T 153 b)) = true := by decide +kernel
theorem zk_153 : ∀ b, zi_chk zi_T 153 (zi_sp zi_T 153 b) (zi_bk zi_T 153 b) = true := zi_allof zk_153_a rfl
set_option maxRecDepth 100000 in
theorem zk_154_a : (List.range 4).all (fun b => zi_chk zi_T 154 (zi_sp zi_T 154 b) (zi_bk zi_T 154 b)) = true := by decide +kernel
theorem zk_154 : ∀ b, zi_chk zi_T 154 (zi_sp zi_T 154 b) (zi_bk zi_T 154 b) = true := zi_allof zk_154_a rfl
set_option maxRecDepth 100000 in
theorem zk_155_a : (List.range 2).all (fun b => zi_chk zi_T 155 (zi_sp zi_T 155 b) (zi_bk zi_T 155 b)) = true := by decide +kernel
theorem zk_155 : ∀ b, zi_chk zi_T 155 (zi_sp zi_T 155 b) (zi_bk zi_T 155 b) = true := zi_allof zk_155_a rfl
set_option maxRecDepth 100000 in
theorem zk_156_a : (List.range 8).all (fun b => zi_chk zi_T 156 (zi_sp zi_T 156 b) (zi_bk zi_T 156 b)) = true := by decide +kernel
theorem zk_156 : ∀ b, zi_chk zi_T 156 (zi_sp zi_T 156 b) (zi_bk zi_T 156 b) = true := zi_allof zk_156_a rfl
set_option maxRecDepth 100000 in
theorem zk_157_a : (List.range 6).all (fun b => zi_chk zi_T 157 (zi_sp zi_T 157 b) (zi_bk zi_T 157 b)) = true := by decide +kernel
theorem zk_157 : ∀ b, zi_chk zi_T 157 (zi_sp zi_T 157 b) (zi_bk zi_T 157 b) = true := zi_allof zk_157_a rfl
set_option maxRecDepth 100000 in
theorem zk_158_a : (List.range 6).all (fun b => zi_chk zi_T 158 (zi_sp zi_T 158 b) (zi_bk zi_T 158 b)) = true := by decide +kernel
theorem zk_158 : ∀ b, zi_chk zi_T 158 (zi_sp zi_T 158 b) (zi_bk zi_T 158 b) = true := zi_allof zk_158_a rfl
set_option maxRecDepth 100000 in
theorem zk_159_a : (List.range 7).all (fun b => zi_chk zi_T 159 (zi_sp zi_T 159 b) (zi_bk zi_T 159 b)) = true := by decide +kernel
theorem zk_159 : ∀ b, zi_chk zi_T 159 (zi_sp zi_T 159 b) (zi_bk zi_T 159 b) = true := zi_allof zk_159_a rfl
set_option maxRecDepth 100000 in
theorem zk_160_a : (List.range 5).all (fun b => zi_chk zi_T 160 (zi_sp zi_T 160 b) (zi_bk zi_T 160 b)) = true := by decide +kernel
theorem zk_160 : ∀ b, zi_chk zi_T 160 (zi_sp zi_T 160 b) (zi_bk zi_T 160 b) = true := zi_allof zk_160_a rfl
set_option maxRecDepth 100000 in
theorem zk_161_a : (List.range 7).all (fun b => zi_chk zi_T 161 (zi_sp zi_T 161 b) (zi_bk zi_T 161 b)) = true := by decide +kernel
theorem zk_161 : ∀ b, zi_chk zi_T 161 (zi_sp zi_T 161 b) (zi_bk zi_T 161 b) = true := zi_allof zk_161_a rfl
set_option maxRecDepth 100000 in
theorem zk_162_a : (List.range 7).all (fun b => zi_chk zi_T 162 (zi_sp zi_T 162 b) (zi_bk zi_T 162 b)) = true := by decide +kernel
theorem zk_162 : ∀ b, zi_chk zi_T 162 (zi_sp zi_T 162 b) (zi_bk zi_T 162 b) = true := zi_allof zk_162_a rfl
set_option maxRecDepth 100000 in
theorem zk_163_a : (List.range 4).all (fun b => zi_chk zi_T 163 (zi_sp zi_T 163 b) (zi_bk zi_T 163 b)) = true := by decide +kernel
theorem zk_163 : ∀ b, zi_chk zi_T 163 (zi_sp zi_T 163 b) (zi_bk zi_T 163 b) = true := zi_allof zk_163_a rfl
set_option maxRecDepth 100000 in
theorem zk_164_a : (List.range 7).all (fun b => zi_chk zi_T 164 (zi_sp zi_T 164 b) (zi_bk zi_T 164 b)) = true := by decide +kernel
theorem zk_164 : ∀ b, zi_chk zi_T 164 (zi_sp zi_T 164 b) (zi_bk zi_T 164 b) = true := zi_allof zk_164_a rfl
set_option maxRecDepth 100000 in
theorem zk_165_a : (List.range 6).all (fun b => zi_chk zi_T 165 (zi_sp zi_T 165 b) (zi_bk zi_T 165 b)) = true := by decide +kernel
theorem zk_165 : ∀ b, zi_chk zi_T 165 (zi_sp zi_T 165 b) (zi_bk zi_T 165 b) = true := zi_allof zk_165_a rfl
set_option maxRecDepth 100000 in
theorem zk_166_a : (List.range 16).all (fun b => zi_chk zi_T 166 (zi_sp zi_T 166 b) (zi_bk zi_T 166 b)) = true := by decide +kernel
theorem zk_166 : ∀ b, zi_chk zi_T 166 (zi_sp zi_T 166 b) (zi_bk zi_T 166 b) = true := zi_allof zk_166_a rfl
set_option maxRecDepth 100000 in
theorem zk_167_a : (List.range 1).all (fun b => zi_chk zi_T 167 (zi_sp zi_T 167 b) (zi_bk zi_T 167 b)) = true := by decide +kernel
theorem zk_167 : ∀ b, zi_chk zi_T 167 (zi_sp zi_T 167 b) (zi_bk zi_T 167 b) = true := zi_allof zk_167_a rfl
set_option maxRecDepth 100000 in
theorem zk_168_a : (List.range 5).all (fun b => zi_chk zi_T 168 (zi_sp zi_T 168 b) (zi_bk zi_T 168 b)) = true := by decide +kernel
theorem zk_168 : ∀ b, zi_chk zi_T 168 (zi_sp zi_T 168 b) (zi_bk zi_T 168 b) = true := zi_allof zk_168_a rfl
set_option maxRecDepth 100000 in
theorem zk_169_a : (List.range 6).all (fun b => zi_chk zi_T 169 (zi_sp zi_T 169 b) (zi_bk zi_T 169 b)) = true := by decide +kernel
theorem zk_169 : ∀ b, zi_chk zi_T 169 (zi_sp zi_T 169 b) (zi_bk zi_T 169 b) = true := zi_allof zk_169_a rfl
set_option maxRecDepth 100000 in
theorem zk_170_a : (List.range 5).all (fun b => zi_chk zi_T 170 (zi_sp zi_T 170 b) (zi_bk zi_T 170 b)) = true := by decide +kernel
theorem zk_170 : ∀ b, zi_chk zi_T 170 (zi_sp zi_T 170 b) (zi_bk zi_T 170 b) = true := zi_allof zk_170_a rfl
set_option maxRecDepth 100000 in
theorem zk_171_a : (List.range 1).all (fun b => zi_chk zi_T 171 (zi_sp zi_T 171 b) (zi_bk zi_T 171 b)) = true := by decide +kernel
theorem zk_171 : ∀ b, zi_chk zi_T 171 (zi_sp zi_T 171 b) (zi_bk zi_T 171 b) = true := zi_allof zk_171_a rfl
set_option maxRecDepth 100000 in
theorem zk_172_a : (List.range 1).all (fun b => zi_chk zi_T 172 (zi_sp zi_T 172 b) (zi_bk zi_T 172 b)) = true := by decide +kernel
theorem zk_172 : ∀ b, zi_chk zi_T 172 (zi_sp zi_T 172 b) (zi_bk zi_T 172 b) = true := zi_allof zk_172_a rfl
set_option maxRecDepth 100000 in
theorem zk_173_a : (List.range 8).all (fun b => zi_chk zi_T 173 (zi_sp zi_T 173 b) (zi_bk zi_T 173 b)) = true := by decide +kernel
theorem zk_173 : ∀ b, zi_chk zi_T 173 (zi_sp zi_T 173 b) (zi_bk zi_T 173 b) = true := zi_allof zk_173_a rfl
