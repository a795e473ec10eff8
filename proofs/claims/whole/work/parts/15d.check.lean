/-! the kernel's check of the methods, by program -/
set_option maxRecDepth 100000 in
theorem zk_85_a : (List.range 1).all (fun b => zi_chk zi_T 85 (zi_sp zi_T 85 b) (zi_bk zi_T 85 b)) = true := by decide +kernel
theorem zk_85 : ∀ b, zi_chk zi_T 85 (zi_sp zi_T 85 b) (zi_bk zi_T 85 b) = true := zi_allof zk_85_a rfl
set_option maxRecDepth 100000 in
theorem zk_86_a : (List.range 1).all (fun b => zi_chk zi_T 86 (zi_sp zi_T 86 b) (zi_bk zi_T 86 b)) = true := by decide +kernel
theorem zk_86 : ∀ b, zi_chk zi_T 86 (zi_sp zi_T 86 b) (zi_bk zi_T 86 b) = true := zi_allof zk_86_a rfl
set_option maxRecDepth 100000 in
theorem zk_87_a : (List.range 10).all (fun b => zi_chk zi_T 87 (zi_sp zi_T 87 b) (zi_bk zi_T 87 b)) = true := by decide +kernel
theorem zk_87 : ∀ b, zi_chk zi_T 87 (zi_sp zi_T 87 b) (zi_bk zi_T 87 b) = true := zi_allof zk_87_a rfl
set_option maxRecDepth 100000 in
theorem zk_88_a : (List.range 1).all (fun b => zi_chk zi_T 88 (zi_sp zi_T 88 b) (zi_bk zi_T 88 b)) = true := by decide +kernel
theorem zk_88 : ∀ b, zi_chk zi_T 88 (zi_sp zi_T 88 b) (zi_bk zi_T 88 b) = true := zi_allof zk_88_a rfl
set_option maxRecDepth 100000 in
theorem zk_89_a : (List.range 1).all (fun b => zi_chk zi_T 89 (zi_sp zi_T 89 b) (zi_bk zi_T 89 b)) = true := by decide +kernel
theorem zk_89 : ∀ b, zi_chk zi_T 89 (zi_sp zi_T 89 b) (zi_bk zi_T 89 b) = true := zi_allof zk_89_a rfl
set_option maxRecDepth 100000 in
theorem zk_90_a : (List.range 4).all (fun b => zi_chk zi_T 90 (zi_sp zi_T 90 b) (zi_bk zi_T 90 b)) = true := by decide +kernel
theorem zk_90 : ∀ b, zi_chk zi_T 90 (zi_sp zi_T 90 b) (zi_bk zi_T 90 b) = true := zi_allof zk_90_a rfl
set_option maxRecDepth 100000 in
theorem zk_91_a : (List.range 4).all (fun b => zi_chk zi_T 91 (zi_sp zi_T 91 b) (zi_bk zi_T 91 b)) = true := by decide +kernel
theorem zk_91 : ∀ b, zi_chk zi_T 91 (zi_sp zi_T 91 b) (zi_bk zi_T 91 b) = true := zi_allof zk_91_a rfl
set_option maxRecDepth 100000 in
theorem zk_92_a : (List.range 4).all (fun b => zi_chk zi_T 92 (zi_sp zi_T 92 b) (zi_bk zi_T 92 b)) = true := by decide +kernel
theorem zk_92 : ∀ b, zi_chk zi_T 92 (zi_sp zi_T 92 b) (zi_bk zi_T 92 b) = true := zi_allof zk_92_a rfl
set_option maxRecDepth 100000 in
theorem zk_93_a : (List.range 4).all (fun b => zi_chk zi_T 93 (zi_sp zi_T 93 b) (zi_bk zi_T 93 b)) = true := by decide +kernel
theorem zk_93 : ∀ b, zi_chk zi_T 93 (zi_sp zi_T 93 b) (zi_bk zi_T 93 b) = true := zi_allof zk_93_a rfl
set_option maxRecDepth 100000 in
theorem zk_94_a : (List.range 4).all (fun b => zi_chk zi_T 94 (zi_sp zi_T 94 b) (zi_bk zi_T 94 b)) = true := by decide +kernel
theorem zk_94 : ∀ b, zi_chk zi_T 94 (zi_sp zi_T 94 b) (zi_bk zi_T 94 b) = true := zi_allof zk_94_a rfl
set_option maxRecDepth 100000 in
theorem zk_95_a : (List.range 4).all (fun b => zi_chk zi_T 95 (zi_sp zi_T 95 b) (zi_bk zi_T 95 b)) = true := by decide +kernel
theorem zk_95 : ∀ b, zi_chk zi_T 95 (zi_sp zi_T 95 b) (zi_bk zi_T 95 b) = true := zi_allof zk_95_a rfl
set_option maxRecDepth 100000 in
theorem zk_96_a : (List.range 5).all (fun b => zi_chk zi_T 96 (zi_sp zi_T 96 b) (zi_bk zi_T 96 b)) = true := by decide +kernel
theorem zk_96 : ∀ b, zi_chk zi_T 96 (zi_sp zi_T 96 b) (zi_bk zi_T 96 b) = true := zi_allof zk_96_a rfl
set_option maxRecDepth 100000 in
theorem zk_97_a : (List.range 5).all (fun b => zi_chk zi_T 97 (zi_sp zi_T 97 b) (zi_bk zi_T 97 b)) = true := by decide +kernel
theorem zk_97 : ∀ b, zi_chk zi_T 97 (zi_sp zi_T 97 b) (zi_bk zi_T 97 b) = true := zi_allof zk_97_a rfl
set_option maxRecDepth 100000 in
theorem zk_98_a : (List.range 4).all (fun b => zi_chk zi_T 98 (zi_sp zi_T 98 b) (zi_bk zi_T 98 b)) = true := by decide +kernel
theorem zk_98 : ∀ b, zi_chk zi_T 98 (zi_sp zi_T 98 b) (zi_bk zi_T 98 b) = true := zi_allof zk_98_a rfl
set_option maxRecDepth 100000 in
theorem zk_99_a : (List.range 10).all (fun b => zi_chk zi_T 99 (zi_sp zi_T 99 b) (zi_bk zi_T 99 b)) = true := by decide +kernel
theorem zk_99 : ∀ b, zi_chk zi_T 99 (zi_sp zi_T 99 b) (zi_bk zi_T 99 b) = true := zi_allof zk_99_a rfl
set_option maxRecDepth 100000 in
theorem zk_100_a : (List.range 3).all (fun b => zi_chk zi_T 100 (zi_sp zi_T 100 b) (zi_bk zi_T 100 b)) = true := by decide +kernel
theorem zk_100 : ∀ b, zi_chk zi_T 100 (zi_sp zi_T 100 b) (zi_bk zi_T 100 b) = true := zi_allof zk_100_a rfl
set_option maxRecDepth 100000 in
theorem zk_101_a : (List.range 4).all (fun b => zi_chk zi_T 101 (zi_sp zi_T 101 b) (zi_bk zi_T 101 b)) = true := by decide +kernel
theorem zk_101 : ∀ b, zi_chk zi_T 101 (zi_sp zi_T 101 b) (zi_bk zi_T 101 b) = true := zi_allof zk_101_a rfl
set_option maxRecDepth 100000 in
theorem zk_102_a : (List.range 1).all (fun b => zi_chk zi_T 102 (zi_sp zi_T 102 b) (zi_bk zi_T 102 b)) = true := by decide +kernel
theorem zk_102 : ∀ b, zi_chk zi_T 102 (zi_sp zi_T 102 b) (zi_bk zi_T 102 b) = true := zi_allof zk_102_a rfl
set_option maxRecDepth 100000 in
theorem zk_103_a : (List.range 1).all (fun b => zi_chk zi_T 103 (zi_sp zi_T 103 b) (zi_bk zi_T 103 b)) = true := by decide +kernel
theorem zk_103 : ∀ b, zi_chk zi_T 103 (zi_sp zi_T 103 b) (zi_bk zi_T 103 b) = true := zi_allof zk_103_a rfl
set_option maxRecDepth 100000 in
theorem zk_104_a : (List.range 1).all (fun b => zi_chk zi_T 104 (zi_sp zi_T 104 b) (zi_bk zi_T 104 b)) = true := by decide +kernel
theorem zk_104 : ∀ b, zi_chk zi_T 104 (zi_sp zi_T 104 b) (zi_bk zi_T 104 b) = true := zi_allof zk_104_a rfl
set_option maxRecDepth 100000 in
theorem zk_105_a : (List.range 1).all (fun b => zi_chk zi_T 105 (zi_sp zi_T 105 b) (zi_bk zi_T 105 b)) = true := by decide +kernel
theorem zk_105 : ∀ b, zi_chk zi_T 105 (zi_sp zi_T 105 b) (zi_bk zi_T 105 b) = true := zi_allof zk_105_a rfl
set_option maxRecDepth 100000 in
theorem zk_106_a : (List.range 1).all (fun b => zi_chk zi_T 106 (zi_sp zi_T 106 b) (zi_bk zi_T 106 b)) = true := by decide +kernel
theorem zk_106 : ∀ b, zi_chk zi_T 106 (zi_sp zi_T 106 b) (zi_bk zi_T 106 b) = true := zi_allof zk_106_a rfl
set_option maxRecDepth 100000 in
theorem zk_107_a : (List.range 1).all (fun b => zi_chk zi_T 107 (zi_sp zi_T 107 b) (zi_bk zi_T 107 b)) = true := by decide +kernel
theorem zk_107 : ∀ b, zi_chk zi_T 107 (zi_sp zi_T 107 b) (zi_bk zi_T 107 b) = true := zi_allof zk_107_a rfl
set_option maxRecDepth 100000 in
theorem zk_108_a : (List.range 5).all (fun b => zi_chk zi_T 108 (zi_sp zi_T 108 b) (zi_bk zi_T 108 b)) = true := by decide +kernel
theorem zk_108 : ∀ b, zi_chk zi_T 108 (zi_sp zi_T 108 b) (zi_bk zi_T 108 b) = true := zi_allof zk_108_a rfl
set_option maxRecDepth 100000 in
theorem zk_109_a : (List.range 1).all (fun b => zi_chk zi_T 109 (zi_sp zi_T 109 b) (zi_bk zi_T 109 b)) = true := by decide +kernel
theorem zk_109 : ∀ b, zi_chk zi_T 109 (zi_sp zi_T 109 b) (zi_bk zi_T 109 b) = true := zi_allof zk_109_a rfl
set_option maxRecDepth 100000 in
theorem zk_110_a : (List.range 1).all (fun b => zi_chk zi_T 110 (zi_sp zi_T 110 b) (zi_bk zi_T 110 b)) = true := by decide +kernel
theorem zk_110 : ∀ b, zi_chk zi_T 110 (zi_sp zi_T 110 b) (zi_bk zi_T 110 b) = true := zi_allof zk_110_a rfl
set_option maxRecDepth 100000 in
theorem zk_111_a : (List.range 3).all (fun b => zi_chk zi_T 111 (zi_sp zi_T 111 b) (zi_bk zi_T 111 b)) = true := by decide +kernel
theorem zk_111 : ∀ b, zi_chk zi_T 111 (zi_sp zi_T 111 b) (zi_bk zi_T 111 b) = true := zi_allof zk_111_a rfl
set_option maxRecDepth 100000 in
theorem zk_112_a : (List.range 1).all (fun b => zi_chk zi_T 112 (zi_sp zi_T 112 b) (zi_bk zi_T 112 b)) = true := by decide +kernel
theorem zk_112 : ∀ b, zi_chk zi_T 112 (zi_sp zi_T 112 b) (zi_bk zi_T 112 b) = true := zi_allof zk_112_a rfl
set_option maxRecDepth 100000 in
theorem zk_113_a : (List.range 1).all (fun b => zi_chk zi_T 113 (zi_sp zi_T 113 b) (zi_bk zi_T 113 b)) = true := by decide +kernel
theorem zk_113 : ∀ b, zi_chk zi_T 113 (zi_sp zi_T 113 b) (zi_bk zi_T 113 b) = true := zi_allof zk_113_a rfl
set_option maxRecDepth 100000 in
theorem zk_114_a : (List.range 7).all (fun b => zi_chk zi_T 114 (zi_sp zi_T 114 b) (zi_bk zi_T 114 b)) = true := by decide +kernel
theorem zk_114 : ∀ b, zi_chk zi_T 114 (zi_sp zi_T 114 b) (zi_bk zi_T 114 b) = true := zi_allof zk_114_a rfl
set_option maxRecDepth 100000 in
theorem zk_115_a : (List.range 3).all (fun b => zi_chk zi_T 115 (zi_sp zi_T 115 b) (zi_bk zi_T 115 b)) = true := by decide +kernel
theorem zk_115 : ∀ b, zi_chk zi_T 115 (zi_sp zi_T 115 b) (zi_bk zi_T 115 b) = true := zi_allof zk_115_a rfl
set_option maxRecDepth 100000 in
theorem zk_116_a : (List.range 3).all (fun b => zi_chk zi_T 116 (zi_sp zi_T 116 b) (zi_bk zi_T 116 b)) = true := by decide +kernel
theorem zk_116 : ∀ b, zi_chk zi_T 116 (zi_sp zi_T 116 b) (zi_bk zi_T 116 b) = true := zi_allof zk_116_a rfl
set_option maxRecDepth 100000 in
theorem zk_117_a : (List.range 3).all (fun b => zi_chk zi_T 117 (zi_sp zi_T 117 b) (zi_bk zi_T 117 b)) = true := by decide +kernel
theorem zk_117 : ∀ b, zi_chk zi_T 117 (zi_sp zi_T 117 b) (zi_bk zi_T 117 b) = true := zi_allof zk_117_a rfl
set_option maxRecDepth 100000 in
theorem zk_118_a : (List.range 4).all (fun b => zi_chk zi_T 118 (zi_sp zi_T 118 b) (zi_bk zi_T 118 b)) = true := by decide +kernel
theorem zk_118 : ∀ b, zi_chk zi_T 118 (zi_sp zi_T 118 b) (zi_bk zi_T 118 b) = true := zi_allof zk_118_a rfl
set_option maxRecDepth 100000 in
theorem zk_119_a : (List.range 4).all (fun b => zi_chk zi_T 119 (zi_sp zi_T 119 b) (zi_bk zi_T 119 b)) = true := by decide +kernel
theorem zk_119 : ∀ b, zi_chk zi_T 119 (zi_sp zi_T 119 b) (zi_bk zi_T 119 b) = true := zi_allof zk_119_a rfl
set_option maxRecDepth 100000 in
theorem zk_120_a : (List.range 3).all (fun b => zi_chk zi_T 120 (zi_sp zi_T 120 b) (zi_bk zi_T 120 b)) = true := by decide +kernel
theorem zk_120 : ∀ b, zi_chk zi_T 120 (zi_sp zi_T 120 b) (zi_bk zi_T 120 b) = true := zi_allof zk_120_a rfl
set_option maxRecDepth 100000 in
theorem zk_121_a : (List.range 3).all (fun b => zi_chk zi_T 121 (zi_sp zi_T 121 b) (zi_bk zi_T 121 b)) = true := by decide +kernel
theorem zk_121 : ∀ b, zi_chk zi_T 121 (zi_sp zi_T 121 b) (zi_bk zi_T 121 b) = true := zi_allof zk_121_a rfl
set_option maxRecDepth 100000 in
theorem zk_122_a : (List.range 8).all (fun b => zi_chk zi_T 122 (zi_sp zi_T 122 b) (zi_bk zi_T 122 b)) = true := by decide +kernel
theorem zk_122 : ∀ b, zi_chk zi_T 122 (zi_sp zi_T 122 b) (zi_bk zi_T 122 b) = true := zi_allof zk_122_a rfl
set_option maxRecDepth 100000 in
theorem zk_123_a : (List.range 5).all (fun b => zi_chk zi_T 123 (zi_sp zi_T 123 b) (zi_bk zi_T 123 b)) = true := by decide +kernel
theorem zk_123 : ∀ b, zi_chk zi_T 123 (zi_sp zi_T 123 b) (zi_bk zi_T 123 b) = true := zi_allof zk_123_a rfl
set_option maxRecDepth 100000 in
theorem zk_124_a : (List.range 9).all (fun b => zi_chk zi_T 124 (zi_sp zi_T 124 b) (zi_bk zi_T 124 b)) = true := by decide +kernel
theorem zk_124 : ∀ b, zi_chk zi_T 124 (zi_sp zi_T 124 b) (zi_bk zi_T 124 b) = true := zi_allof zk_124_a rfl
set_option maxRecDepth 100000 in
theorem zk_125_a : (List.range 13).all (fun b => zi_chk zi_T 125 (zi_sp zi_T 125 b) (zi_bk zi_T 125 b)) = true := by decide +kernel
theorem zk_125 : ∀ b, zi_chk zi_T 125 (zi_sp zi_T 125 b) (zi_bk zi_T 125 b) = true := zi_allof zk_125_a rfl
set_option maxRecDepth 100000 in
theorem zk_126_a : (List.range 7).all (fun b => zi_chk zi_T 126 (zi_sp zi_T 126 b) (zi_bk zi_T 126 b)) = true := by decide +kernel
theorem zk_126 : ∀ b, zi_chk zi_T 126 (zi_sp zi_T 126 b) (zi_bk zi_T 126 b) = true := zi_allof zk_126_a rfl
set_option maxRecDepth 100000 in
theorem zk_127_a : (List.range 7).all (fun b => zi_chk zi_T 127 (zi_sp zi_T 127 b) (zi_bk zi_T 127 b)) = true := by decide +kernel
theorem zk_127 : ∀ b, zi_chk zi_T 127 (zi_sp zi_T 127 b) (zi_bk zi_T 127 b) = true := zi_allof zk_127_a rfl
set_option maxRecDepth 100000 in
theorem zk_128_a : (List.range 3).all (fun b => zi_chk zi_T 128 (zi_sp zi_T 128 b) (zi_bk zi_T 128 b)) = true := by decide +kernel
theorem zk_128 : ∀ b, zi_chk zi_T 128 (zi_sp zi_T 128 b) (zi_bk zi_T 128 b) = true := zi_allof zk_128_a rfl
set_option maxRecDepth 100000 in
theorem zk_129_a : (List.range 4).all (fun b => zi_chk zi_T 129 (zi_sp zi_T 129 b) (zi_bk zi_T 129 b)) = true := by decide +kernel
theorem zk_129 : ∀ b, zi_chk zi_T 129 (zi_sp zi_T 129 b) (zi_bk zi_T 129 b) = true := zi_allof zk_129_a rfl
set_option maxRecDepth 100000 in
theorem zk_130_a : (List.range 1).all (fun b => zi_chk zi_T 130 (zi_sp zi_T 130 b) (zi_bk zi_T 130 b)) = true := by decide +kernel
theorem zk_130 : ∀ b, zi_chk zi_T 130 (zi_sp zi_T 130 b) (zi_bk zi_T 130 b) = true := zi_allof zk_130_a rfl
set_option maxRecDepth 100000 in
theorem zk_131_a : (List.range 3).all (fun b => zi_chk zi_T 131 (zi_sp zi_T 131 b) (zi_bk zi_T 131 b)) = true := by decide +kernel
theorem zk_131 : ∀ b, zi_chk zi_T 131 (zi_sp zi_T 131 b) (zi_bk zi_T 131 b) = true := zi_allof zk_131_a rfl
set_option maxRecDepth 100000 in
theorem zk_132_a : (List.range 4).all (fun b => zi_chk zi_T 132 (zi_sp zi_T 132 b) (zi_bk zi_T 132 b)) = true := by decide +kernel
theorem zk_132 : ∀ b, zi_chk zi_T 132 (zi_sp zi_T 132 b) (zi_bk zi_T 132 b) = true := zi_allof zk_132_a rfl
set_option maxRecDepth 100000 in
theorem zk_133_a : (List.range 12).all (fun b => zi_chk zi_T 133 (zi_sp zi_T 133 b) (zi_bk zi_T 133 b)) = true := by decide +kernel
theorem zk_133 : ∀ b, zi_chk zi_T 133 (zi_sp zi_T 133 b) (zi_bk zi_T 133 b) = true := zi_allof zk_133_a rfl
set_option maxRecDepth 100000 in
theorem zk_134_a : (List.range 3).all (fun b => zi_chk zi_T 134 (zi_sp zi_T 134 b) (zi_bk zi_T 134 b)) = true := by decide +kernel
theorem zk_134 : ∀ b, zi_chk zi_T 134 (zi_sp zi_T 134 b) (zi_bk zi_T 134 b) = true := zi_allof zk_134_a rfl
