/-! all methods are checked -/
theorem zi_T_far {k : Nat} (h : 174 ≤ k) : zi_T k = zi_dd := by
  unfold zi_T
  rw [List.getD_eq_getElem?_getD]
  by_cases h2 : k < 176
  · have e : k / 16 = 10 := by omega
    rw [e]
    rw [List.getElem?_eq_none (by show 14 ≤ _; omega)]
    rfl
  · have e : zi_TC (k / 16) = [] := by
      unfold zi_TC
      split <;> first | (exfalso; omega) | rfl
    rw [e]
    rfl
theorem zi_hall : ∀ k b, zi_chk zi_T k (zi_sp zi_T k b) (zi_bk zi_T k b) = true := fun k => match k with
  | 0 => zk_0
  | 1 => zk_1
  | 2 => zk_2
  | 3 => zk_3
  | 4 => zk_4
  | 5 => zk_5
  | 6 => zk_6
  | 7 => zk_7
  | 8 => zk_8
  | 9 => zk_9
  | 10 => zk_10
  | 11 => zk_11
  | 12 => zk_12
  | 13 => zk_13
  | 14 => zk_14
  | 15 => zk_15
  | 16 => zk_16
  | 17 => zk_17
  | 18 => zk_18
  | 19 => zk_19
  | 20 => zk_20
  | 21 => zk_21
  | 22 => zk_22
  | 23 => zk_23
  | 24 => zk_24
  | 25 => zk_25
  | 26 => zk_26
  | 27 => zk_27
  | 28 => zk_28
  | 29 => zk_29
  | 30 => zk_30
  | 31 => zk_31
  | 32 => zk_32
  | 33 => zk_33
  | 34 => zk_34
  | 35 => zk_35
  | 36 => zk_36
  | 37 => zk_37
  | 38 => zk_38
  | 39 => zk_39
  | 40 => zk_40
  | 41 => zk_41
  | 42 => zk_42
  | 43 => zk_43
  | 44 => zk_44
  | 45 => zk_45
  | 46 => zk_46
  | 47 => zk_47
  | 48 => zk_48
  | 49 => zk_49
  | 50 => zk_50
  | 51 => zk_51
  | 52 => zk_52
  | 53 => zk_53
  | 54 => zk_54
  | 55 => zk_55
  | 56 => zk_56
  | 57 => zk_57
  | 58 => zk_58
  | 59 => zk_59
  | 60 => zk_60
  | 61 => zk_61
  | 62 => zk_62
  | 63 => zk_63
  | 64 => zk_64
  | 65 => zk_65
  | 66 => zk_66
  | 67 => zk_67
  | 68 => zk_68
  | 69 => zk_69
  | 70 => zk_70
  | 71 => zk_71
  | 72 => zk_72
  | 73 => zk_73
  | 74 => zk_74
  | 75 => zk_75
  | 76 => zk_76
  | 77 => zk_77
  | 78 => zk_78
  | 79 => zk_79
  | 80 => zk_80
  | 81 => zk_81
  | 82 => zk_82
  | 83 => zk_83
  | 84 => zk_84
  | 85 => zk_85
  | 86 => zk_86
  | 87 => zk_87
  | 88 => zk_88
  | 89 => zk_89
  | 90 => zk_90
  | 91 => zk_91
  | 92 => zk_92
  | 93 => zk_93
  | 94 => zk_94
  | 95 => zk_95
  | 96 => zk_96
  | 97 => zk_97
  | 98 => zk_98
  | 99 => zk_99
  | 100 => zk_100
  | 101 => zk_101
  | 102 => zk_102
  | 103 => zk_103
  | 104 => zk_104
  | 105 => zk_105
  | 106 => zk_106
  | 107 => zk_107
  | 108 => zk_108
  | 109 => zk_109
  | 110 => zk_110
  | 111 => zk_111
  | 112 => zk_112
  | 113 => zk_113
  | 114 => zk_114
  | 115 => zk_115
  | 116 => zk_116
  | 117 => zk_117
  | 118 => zk_118
  | 119 => zk_119
  | 120 => zk_120
  | 121 => zk_121
  | 122 => zk_122
  | 123 => zk_123
  | 124 => zk_124
  | 125 => zk_125
  | 126 => zk_126
  | 127 => zk_127
  | 128 => zk_128
  | 129 => zk_129
  | 130 => zk_130
  | 131 => zk_131
  | 132 => zk_132
  | 133 => zk_133
  | 134 => zk_134
  | 135 => zk_135
  | 136 => zk_136
  | 137 => zk_137
  | 138 => zk_138
  | 139 => zk_139
  | 140 => zk_140
  | 141 => zk_141
  | 142 => zk_142
  | 143 => zk_143
  | 144 => zk_144
  | 145 => zk_145
  | 146 => zk_146
  | 147 => zk_147
  | 148 => zk_148
  | 149 => zk_149
  | 150 => zk_150
  | 151 => zk_151
  | 152 => zk_152
  | 153 => zk_153
  | 154 => zk_154
  | 155 => zk_155
  | 156 => zk_156
  | 157 => zk_157
  | 158 => zk_158
  | 159 => zk_159
  | 160 => zk_160
  | 161 => zk_161
  | 162 => zk_162
  | 163 => zk_163
  | 164 => zk_164
  | 165 => zk_165
  | 166 => zk_166
  | 167 => zk_167
  | 168 => zk_168
  | 169 => zk_169
  | 170 => zk_170
  | 171 => zk_171
  | 172 => zk_172
  | 173 => zk_173
  | k + 174 => fun b => by
    have e := zi_T_far (k := k + 174) (by omega)
    have e2 : zi_bk zi_T (k + 174) b = [] := by unfold zi_bk; rw [e]; rfl
    rw [e2]
    rfl
theorem zi_hpl_l : (List.range 174).all (fun k => decide (plainName (zi_yy zi_T k).cls = true)) = true := by decide +kernel
theorem zi_hpl : ∀ k, plainName (zi_yy zi_T k).cls = true := by
  intro k
  by_cases h : k < 174
  · have := List.all_eq_true.mp zi_hpl_l k (List.mem_range.mpr h)
    simpa using this
  · have e := zi_T_far (k := k) (by omega)
    unfold zi_yy
    rw [e]
    decide
theorem zi_hz_l : (List.range 174).all (fun k => decide (zi_sp zi_T k 0 = 0)) = true := by decide +kernel
theorem zi_hz : ∀ k, zi_sp zi_T k 0 = 0 := by
  intro k
  by_cases h : k < 174
  · have := List.all_eq_true.mp zi_hz_l k (List.mem_range.mpr h)
    simpa using this
  · have e := zi_T_far (k := k) (by omega)
    unfold zi_sp
    rw [e]
    rfl
