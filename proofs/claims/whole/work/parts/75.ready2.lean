/-! a TEXT on m's side: a round, the piece -/
theorem zTk_3s {ring n kd : Nat} {rd : Nat → zRt} {v : Int32} (h : zkO v = some kd) : zTk (3, ring, n + 1, va_up rd n zNw) v = some (4, ring, n + 1, va_up rd n (kd, 1, 0, fun _ => 0)) := by
  unfold zTk
  dsimp only
  rw [if_neg (by omega), if_neg (by omega), if_neg (by omega), if_pos rfl, h, show n + 1 - 1 = n by omega]
  simp only [va_up_self, zup_up]
  rfl
theorem zTk_3n {ring n : Nat} {rd : Nat → zRt} {v : Int32} (h : zkO v = none) : zTk (3, ring, n + 1, rd) v = none := by
  unfold zTk
  dsimp only
  rw [if_neg (by omega), if_neg (by omega), if_neg (by omega), if_pos rfl, h]
theorem zTk_4s {ring n kd : Nat} {sg : Nat → Nat} {rd : Nat → zRt} {v : Int32} (h : 49 ≤ v ∧ v ≤ 57) : zTk (4, ring, n + 1, va_up rd n (kd, 1, 0, sg)) v = some (5, ring, n + 1, va_up rd n (kd, v.toNatClampNeg - 48, 0, sg)) := by
  unfold zTk
  dsimp only
  rw [if_neg (by omega), if_neg (by omega), if_neg (by omega), if_neg (by omega), if_pos rfl, if_pos h, show n + 1 - 1 = n by omega]
  simp only [va_up_self, zup_up]
theorem zTk_4n {ring n : Nat} {rd : Nat → zRt} {v : Int32} (h : ¬ (49 ≤ v ∧ v ≤ 57)) : zTk (4, ring, n, rd) v = none := by
  unfold zTk
  dsimp only
  rw [if_neg (by omega), if_neg (by omega), if_neg (by omega), if_neg (by omega), if_pos rfl, if_neg h]
theorem zTf_no {f : Nat → Int32} {i d p : Nat} {T : zTt} {R : Option Nat × zTt} (hR : zTf f i d p T = R) (h5 : d = 0 → T.1 ≠ 5) (hn : d ≠ 0 → zTk T (f (i + p)) = none) : R.1 = some p := by
  rw [← hR]
  cases d with
  | zero =>
    show (if T.1 = 5 ∧ 0 < (T.2.2.2 (T.2.2.1 - 1)).2.2.1 then (none, T) else (some p, T)).1 = some p
    rw [if_neg (fun h => h5 rfl h.1)]
  | succ d =>
    show (match zTk T (f (i + p)) with | none => (some p, T) | some T' => zTf f i d (p + 1) T').1 = some p
    rw [hn (by omega)]
theorem zTf_st {f : Nat → Int32} {i d p : Nat} {T T' : zTt} {R : Option Nat × zTt} (hR : zTf f i (d + 1) p T = R) (hs : zTk T (f (i + p)) = some T') : zTf f i d (p + 1) T' = R := by
  rw [← hR]
  show _ = (match zTk T (f (i + p)) with | none => (some p, T) | some T' => zTf f i d (p + 1) T')
  rw [hs]
section ZRZ
variable {sc : Nat × (Nat → Int32)} {J : Nat → Nat → Int64} {K : Option Value → zi_M → Prop}
theorem g_m_kd {F w p n kd : Nat} {v : Int32} {I : Nat → Nat → Int32} (hn : n < 6) (hat : I 111 11 = nI (F + p)) (hp : p < w) (hF : F + w ≤ 240) (hv : I 114 (F + p) = v) (hk : zkO v = some kd) : zi_B sc 0 0 125 0 [some (.ref 111), some (.int (nI (F + w))), some (.int (nI (n + 1)))] [] (zm I J) K = zi_B sc 0 0 125 7 [some (.ref 111), some (.int (nI (F + w))), some (.int (nI (n + 1))), some (.int v)] [] (zm (zi_up I 120 (n + 1) (nI kd)) J) K := by
  have g1 : ¬ nI (F + w) ≤ nI (F + p) := znle (by omega) (by omega)
  have e1 : (nI (F + p)).toNatClampNeg = F + p := nI_clamp (by omega)
  have v1 : zi_vin (nI (F + p)) 240 = true := zv_nI (by omega) (by omega)
  have en : (nI (n + 1)).toNatClampNeg = n + 1 := nI_clamp (by omega)
  have vn : zi_vin (nI (n + 1)) 7 = true := zv_nI (by omega) (by omega)
  have q0 : ∀ x : Int32, zi_up I 120 (n + 1) x 120 (n + 1) = x := fun x => by rw [zu_up, if_pos rfl, if_pos rfl]
  have m0 : ¬ (0 : Int32) = -9 := by decide
  have m1 : ¬ (1 : Int32) = -9 := by decide
  have m2 : ¬ (2 : Int32) = -9 := by decide
  have n1 : ¬ (98 : Int32) = 112 := by decide
  have n2 : ¬ (116 : Int32) = 112 := by decide
  have n3 : ¬ (116 : Int32) = 98 := by decide
  unfold zkO at hk
  by_cases c1 : v = 112
  · rw [if_pos c1] at hk
    cases hk
    rw [show nI 0 = 0 from rfl]
    subst c1
    simp only [zi_wp_c, zi_wK_if, zi_wK_go, zi_wK_no, zi_wK_b, zi_wK_r, zi_wK_c, zi_cc_i, zi_cc_n, zi_B_if, zi_ifF, zx_nop, zx_iconst, zx_bipush, zx_sipush, zx_lconst, zx_ldc2_w, zx_aconst_null, zx_iload, zx_iload_n, zx_lload, zx_lload_n, zx_aload, zx_aload_n, zx_istore, zx_istore_n, zx_lstore, zx_lstore_n, zx_astore, zx_astore_n, zx_iinc, zx_iadd, zx_isub, zx_imul, zx_iand, zx_ior, zx_ishl, zx_ishr, zx_idiv, zx_irem, zx_ladd, zx_ldiv, zx_lrem, zx_lcmp, zx_i2l, zx_i2b, zx_i2s, zx_pop, zx_dup, zx_dup2, zx_getfield, zx_putfield, zx_getstatic, zx_iaload, zx_iastore, zx_laload, zx_lastore, zx_aaload, zx_arraylength, zx_goto, zx_ifCond, zx_if_icmp, zx_ifnull, zx_ifnonnull, zx_tableswitch, zx_lookupswitch, zx_ireturn, zx_lreturn, zx_areturn, zx_return_, zx_invokestatic, zx_invokevirtual, zi_ldi, zi_ldl, zi_lda, zi_sti, zi_stl, zi_sta, zi_inc, zi_b2, zi_d2, zi_l2, zi_dl2, zi_lc, zi_u1, zi_pp, zi_dup, zi_dup2, zi_gf, zi_pf, zi_ial, zi_ias, zi_lal, zi_las, zi_aal, zi_aln, zi_cp, zi_cmp, zi_if, zi_ic, zi_nul, zi_nnl, zi_sw, zi_ri, zi_rl, zi_ra, zi_rv, zi_iv, zi_ivr, zi_st1, zi_st2, zq_get0, zq_getS, zq_getN, zq_put0, zq_putS, zq_putN0, zq_putNS, zq_kl0, zq_klS, zq_Ln, zq_Li, zq_Lr, zq_Lf, zq_Lz, zq_Ll, zq_ft0, zq_fti, zq_ftr, zq_ftz, zq_ftf, zq_ftl, zq_pop0, zq_popS, zq_la0, zq_lai, zq_lar, zq_laz, zq_laf, zq_lal, zq_sh0, zq_sh1, zq_sh2, zq_sh3, zq_sh4, zq_f0, zq_f1, zq_f2, zq_f3, zq_u0, zq_u1, zq_u2, zq_ro0, zq_ro1, zq_ro2, zq_fv0, zq_fv2, zq_rfs, zq_rfn, zq_gD0, zq_gDS, zq_gDN, zq_lk0, zq_lkS, zq_tb0, zq_tbS, zq_o0, zq_o1, zq_o2, zq_o98, zq_o99, zq_o100, zq_o105, zq_o107, zq_o112, zq_o115, zq_o116, zq_c0, zq_c1, zq_v0, zq_v1, decide_eq_true_eq, List.toList_toArray, if_true, if_false, ite_self, and_true, true_and, and_false, false_and, true_or, or_true, or_false, false_or, not_true_eq_false, not_false_eq_true, Bool.false_eq_true, reduceCtorEq, ne_eq, ite_not, eq_self, Prod.mk.injEq, Nat.reduceEqDiff, Nat.reduceSub, Nat.reduceAdd, Nat.reduceLT, Nat.reduceLeDiff, zb_125_0, zc_125_0, zb_125_1, zc_125_1, zb_125_2, zc_125_2, zb_125_3, zc_125_3, zb_125_4, zc_125_4, zb_125_5, zc_125_5, zb_125_6, zc_125_6, zmt_111, zmt_112, zmt_113, zmt_114, zmt_115, zmt_116, zmt_117, zmt_118, zmt_119, zmt_120, zmt_121, zmt_122, zmt_123, zmt_124, zmt_125, zmt_126, zmt_127, zmt_128, zmt_129, zmt_130, zmt_131, zmt_132, zmt_133, zmt_134, zmt_135, zmt_136, zrc_111_2, zrc_111_3, zrc_111_4, zrc_111_6, zrc_111_7, zrc_111_8, zrc_111_9, zrc_111_10, zrc_111_14, zrc_111_15, zrc_111_16, zrc_111_17, zrc_111_18, zrc_111_19, zrc_111_20, zrc_111_21, zrc_111_22, zrc_111_24, zrc_111_25, zrc_111_26, zrc_111_27, zrc_111_28, zrc_111_29, zrc_111_31, zrc_111_32, hat, g1, e1, v1, hv, en, vn, q0, m0]
  rw [if_neg c1] at hk
  by_cases c2 : v = 98
  · rw [if_pos c2] at hk
    cases hk
    rw [show nI 1 = 1 from rfl]
    subst c2
    simp only [zi_wp_c, zi_wK_if, zi_wK_go, zi_wK_no, zi_wK_b, zi_wK_r, zi_wK_c, zi_cc_i, zi_cc_n, zi_B_if, zi_ifF, zx_nop, zx_iconst, zx_bipush, zx_sipush, zx_lconst, zx_ldc2_w, zx_aconst_null, zx_iload, zx_iload_n, zx_lload, zx_lload_n, zx_aload, zx_aload_n, zx_istore, zx_istore_n, zx_lstore, zx_lstore_n, zx_astore, zx_astore_n, zx_iinc, zx_iadd, zx_isub, zx_imul, zx_iand, zx_ior, zx_ishl, zx_ishr, zx_idiv, zx_irem, zx_ladd, zx_ldiv, zx_lrem, zx_lcmp, zx_i2l, zx_i2b, zx_i2s, zx_pop, zx_dup, zx_dup2, zx_getfield, zx_putfield, zx_getstatic, zx_iaload, zx_iastore, zx_laload, zx_lastore, zx_aaload, zx_arraylength, zx_goto, zx_ifCond, zx_if_icmp, zx_ifnull, zx_ifnonnull, zx_tableswitch, zx_lookupswitch, zx_ireturn, zx_lreturn, zx_areturn, zx_return_, zx_invokestatic, zx_invokevirtual, zi_ldi, zi_ldl, zi_lda, zi_sti, zi_stl, zi_sta, zi_inc, zi_b2, zi_d2, zi_l2, zi_dl2, zi_lc, zi_u1, zi_pp, zi_dup, zi_dup2, zi_gf, zi_pf, zi_ial, zi_ias, zi_lal, zi_las, zi_aal, zi_aln, zi_cp, zi_cmp, zi_if, zi_ic, zi_nul, zi_nnl, zi_sw, zi_ri, zi_rl, zi_ra, zi_rv, zi_iv, zi_ivr, zi_st1, zi_st2, zq_get0, zq_getS, zq_getN, zq_put0, zq_putS, zq_putN0, zq_putNS, zq_kl0, zq_klS, zq_Ln, zq_Li, zq_Lr, zq_Lf, zq_Lz, zq_Ll, zq_ft0, zq_fti, zq_ftr, zq_ftz, zq_ftf, zq_ftl, zq_pop0, zq_popS, zq_la0, zq_lai, zq_lar, zq_laz, zq_laf, zq_lal, zq_sh0, zq_sh1, zq_sh2, zq_sh3, zq_sh4, zq_f0, zq_f1, zq_f2, zq_f3, zq_u0, zq_u1, zq_u2, zq_ro0, zq_ro1, zq_ro2, zq_fv0, zq_fv2, zq_rfs, zq_rfn, zq_gD0, zq_gDS, zq_gDN, zq_lk0, zq_lkS, zq_tb0, zq_tbS, zq_o0, zq_o1, zq_o2, zq_o98, zq_o99, zq_o100, zq_o105, zq_o107, zq_o112, zq_o115, zq_o116, zq_c0, zq_c1, zq_v0, zq_v1, decide_eq_true_eq, List.toList_toArray, if_true, if_false, ite_self, and_true, true_and, and_false, false_and, true_or, or_true, or_false, false_or, not_true_eq_false, not_false_eq_true, Bool.false_eq_true, reduceCtorEq, ne_eq, ite_not, eq_self, Prod.mk.injEq, Nat.reduceEqDiff, Nat.reduceSub, Nat.reduceAdd, Nat.reduceLT, Nat.reduceLeDiff, zb_125_0, zc_125_0, zb_125_1, zc_125_1, zb_125_2, zc_125_2, zb_125_3, zc_125_3, zb_125_4, zc_125_4, zb_125_5, zc_125_5, zb_125_6, zc_125_6, zmt_111, zmt_112, zmt_113, zmt_114, zmt_115, zmt_116, zmt_117, zmt_118, zmt_119, zmt_120, zmt_121, zmt_122, zmt_123, zmt_124, zmt_125, zmt_126, zmt_127, zmt_128, zmt_129, zmt_130, zmt_131, zmt_132, zmt_133, zmt_134, zmt_135, zmt_136, zrc_111_2, zrc_111_3, zrc_111_4, zrc_111_6, zrc_111_7, zrc_111_8, zrc_111_9, zrc_111_10, zrc_111_14, zrc_111_15, zrc_111_16, zrc_111_17, zrc_111_18, zrc_111_19, zrc_111_20, zrc_111_21, zrc_111_22, zrc_111_24, zrc_111_25, zrc_111_26, zrc_111_27, zrc_111_28, zrc_111_29, zrc_111_31, zrc_111_32, hat, g1, e1, v1, hv, en, vn, q0, n1, m1]
  rw [if_neg c2] at hk
  by_cases c3 : v = 116
  · rw [if_pos c3] at hk
    cases hk
    rw [show nI 2 = 2 from rfl]
    subst c3
    simp only [zi_wp_c, zi_wK_if, zi_wK_go, zi_wK_no, zi_wK_b, zi_wK_r, zi_wK_c, zi_cc_i, zi_cc_n, zi_B_if, zi_ifF, zx_nop, zx_iconst, zx_bipush, zx_sipush, zx_lconst, zx_ldc2_w, zx_aconst_null, zx_iload, zx_iload_n, zx_lload, zx_lload_n, zx_aload, zx_aload_n, zx_istore, zx_istore_n, zx_lstore, zx_lstore_n, zx_astore, zx_astore_n, zx_iinc, zx_iadd, zx_isub, zx_imul, zx_iand, zx_ior, zx_ishl, zx_ishr, zx_idiv, zx_irem, zx_ladd, zx_ldiv, zx_lrem, zx_lcmp, zx_i2l, zx_i2b, zx_i2s, zx_pop, zx_dup, zx_dup2, zx_getfield, zx_putfield, zx_getstatic, zx_iaload, zx_iastore, zx_laload, zx_lastore, zx_aaload, zx_arraylength, zx_goto, zx_ifCond, zx_if_icmp, zx_ifnull, zx_ifnonnull, zx_tableswitch, zx_lookupswitch, zx_ireturn, zx_lreturn, zx_areturn, zx_return_, zx_invokestatic, zx_invokevirtual, zi_ldi, zi_ldl, zi_lda, zi_sti, zi_stl, zi_sta, zi_inc, zi_b2, zi_d2, zi_l2, zi_dl2, zi_lc, zi_u1, zi_pp, zi_dup, zi_dup2, zi_gf, zi_pf, zi_ial, zi_ias, zi_lal, zi_las, zi_aal, zi_aln, zi_cp, zi_cmp, zi_if, zi_ic, zi_nul, zi_nnl, zi_sw, zi_ri, zi_rl, zi_ra, zi_rv, zi_iv, zi_ivr, zi_st1, zi_st2, zq_get0, zq_getS, zq_getN, zq_put0, zq_putS, zq_putN0, zq_putNS, zq_kl0, zq_klS, zq_Ln, zq_Li, zq_Lr, zq_Lf, zq_Lz, zq_Ll, zq_ft0, zq_fti, zq_ftr, zq_ftz, zq_ftf, zq_ftl, zq_pop0, zq_popS, zq_la0, zq_lai, zq_lar, zq_laz, zq_laf, zq_lal, zq_sh0, zq_sh1, zq_sh2, zq_sh3, zq_sh4, zq_f0, zq_f1, zq_f2, zq_f3, zq_u0, zq_u1, zq_u2, zq_ro0, zq_ro1, zq_ro2, zq_fv0, zq_fv2, zq_rfs, zq_rfn, zq_gD0, zq_gDS, zq_gDN, zq_lk0, zq_lkS, zq_tb0, zq_tbS, zq_o0, zq_o1, zq_o2, zq_o98, zq_o99, zq_o100, zq_o105, zq_o107, zq_o112, zq_o115, zq_o116, zq_c0, zq_c1, zq_v0, zq_v1, decide_eq_true_eq, List.toList_toArray, if_true, if_false, ite_self, and_true, true_and, and_false, false_and, true_or, or_true, or_false, false_or, not_true_eq_false, not_false_eq_true, Bool.false_eq_true, reduceCtorEq, ne_eq, ite_not, eq_self, Prod.mk.injEq, Nat.reduceEqDiff, Nat.reduceSub, Nat.reduceAdd, Nat.reduceLT, Nat.reduceLeDiff, zb_125_0, zc_125_0, zb_125_1, zc_125_1, zb_125_2, zc_125_2, zb_125_3, zc_125_3, zb_125_4, zc_125_4, zb_125_5, zc_125_5, zb_125_6, zc_125_6, zmt_111, zmt_112, zmt_113, zmt_114, zmt_115, zmt_116, zmt_117, zmt_118, zmt_119, zmt_120, zmt_121, zmt_122, zmt_123, zmt_124, zmt_125, zmt_126, zmt_127, zmt_128, zmt_129, zmt_130, zmt_131, zmt_132, zmt_133, zmt_134, zmt_135, zmt_136, zrc_111_2, zrc_111_3, zrc_111_4, zrc_111_6, zrc_111_7, zrc_111_8, zrc_111_9, zrc_111_10, zrc_111_14, zrc_111_15, zrc_111_16, zrc_111_17, zrc_111_18, zrc_111_19, zrc_111_20, zrc_111_21, zrc_111_22, zrc_111_24, zrc_111_25, zrc_111_26, zrc_111_27, zrc_111_28, zrc_111_29, zrc_111_31, zrc_111_32, hat, g1, e1, v1, hv, en, vn, q0, n2, n3, m2]
  rw [if_neg c3] at hk; cases hk
theorem g_m_kn {F w p n : Nat} {v : Int32} {I : Nat → Nat → Int32} (hn : n < 6) (hat : I 111 11 = nI (F + p)) (hp : p ≤ w) (hF : F + w ≤ 240) (hv : p < w → I 114 (F + p) = v) (hk : p < w → zkO v = none) : zi_B sc 0 0 125 0 [some (.ref 111), some (.int (nI (F + w))), some (.int (nI (n + 1)))] [] (zm I J) K = K (some (.int 0)) (zm (zi_up I 120 (n + 1) (-9)) J) := by
  have en : (nI (n + 1)).toNatClampNeg = n + 1 := nI_clamp (by omega)
  have vn : zi_vin (nI (n + 1)) 7 = true := zv_nI (by omega) (by omega)
  have q0 : ∀ x : Int32, zi_up I 120 (n + 1) x 120 (n + 1) = x := fun x => by rw [zu_up, if_pos rfl, if_pos rfl]
  by_cases c : p < w
  · have g1 : ¬ nI (F + w) ≤ nI (F + p) := znle (by omega) (by omega)
    have e1 : (nI (F + p)).toNatClampNeg = F + p := nI_clamp (by omega)
    have v1 : zi_vin (nI (F + p)) 240 = true := zv_nI (by omega) (by omega)
    have g := hv c
    have hk' := hk c
    unfold zkO at hk'
    by_cases c1 : v = 112
    · rw [if_pos c1] at hk'; cases hk'
    rw [if_neg c1] at hk'
    by_cases c2 : v = 98
    · rw [if_pos c2] at hk'; cases hk'
    rw [if_neg c2] at hk'
    by_cases c3 : v = 116
    · rw [if_pos c3] at hk'; cases hk'
    simp only [zi_wp_c, zi_wK_if, zi_wK_go, zi_wK_no, zi_wK_b, zi_wK_r, zi_wK_c, zi_cc_i, zi_cc_n, zi_B_if, zi_ifF, zx_nop, zx_iconst, zx_bipush, zx_sipush, zx_lconst, zx_ldc2_w, zx_aconst_null, zx_iload, zx_iload_n, zx_lload, zx_lload_n, zx_aload, zx_aload_n, zx_istore, zx_istore_n, zx_lstore, zx_lstore_n, zx_astore, zx_astore_n, zx_iinc, zx_iadd, zx_isub, zx_imul, zx_iand, zx_ior, zx_ishl, zx_ishr, zx_idiv, zx_irem, zx_ladd, zx_ldiv, zx_lrem, zx_lcmp, zx_i2l, zx_i2b, zx_i2s, zx_pop, zx_dup, zx_dup2, zx_getfield, zx_putfield, zx_getstatic, zx_iaload, zx_iastore, zx_laload, zx_lastore, zx_aaload, zx_arraylength, zx_goto, zx_ifCond, zx_if_icmp, zx_ifnull, zx_ifnonnull, zx_tableswitch, zx_lookupswitch, zx_ireturn, zx_lreturn, zx_areturn, zx_return_, zx_invokestatic, zx_invokevirtual, zi_ldi, zi_ldl, zi_lda, zi_sti, zi_stl, zi_sta, zi_inc, zi_b2, zi_d2, zi_l2, zi_dl2, zi_lc, zi_u1, zi_pp, zi_dup, zi_dup2, zi_gf, zi_pf, zi_ial, zi_ias, zi_lal, zi_las, zi_aal, zi_aln, zi_cp, zi_cmp, zi_if, zi_ic, zi_nul, zi_nnl, zi_sw, zi_ri, zi_rl, zi_ra, zi_rv, zi_iv, zi_ivr, zi_st1, zi_st2, zq_get0, zq_getS, zq_getN, zq_put0, zq_putS, zq_putN0, zq_putNS, zq_kl0, zq_klS, zq_Ln, zq_Li, zq_Lr, zq_Lf, zq_Lz, zq_Ll, zq_ft0, zq_fti, zq_ftr, zq_ftz, zq_ftf, zq_ftl, zq_pop0, zq_popS, zq_la0, zq_lai, zq_lar, zq_laz, zq_laf, zq_lal, zq_sh0, zq_sh1, zq_sh2, zq_sh3, zq_sh4, zq_f0, zq_f1, zq_f2, zq_f3, zq_u0, zq_u1, zq_u2, zq_ro0, zq_ro1, zq_ro2, zq_fv0, zq_fv2, zq_rfs, zq_rfn, zq_gD0, zq_gDS, zq_gDN, zq_lk0, zq_lkS, zq_tb0, zq_tbS, zq_o0, zq_o1, zq_o2, zq_o98, zq_o99, zq_o100, zq_o105, zq_o107, zq_o112, zq_o115, zq_o116, zq_c0, zq_c1, zq_v0, zq_v1, decide_eq_true_eq, List.toList_toArray, if_true, if_false, ite_self, and_true, true_and, and_false, false_and, true_or, or_true, or_false, false_or, not_true_eq_false, not_false_eq_true, Bool.false_eq_true, reduceCtorEq, ne_eq, ite_not, eq_self, Prod.mk.injEq, Nat.reduceEqDiff, Nat.reduceSub, Nat.reduceAdd, Nat.reduceLT, Nat.reduceLeDiff, zb_125_0, zc_125_0, zb_125_1, zc_125_1, zb_125_2, zc_125_2, zb_125_3, zc_125_3, zb_125_4, zc_125_4, zb_125_5, zc_125_5, zb_125_6, zc_125_6, zmt_111, zmt_112, zmt_113, zmt_114, zmt_115, zmt_116, zmt_117, zmt_118, zmt_119, zmt_120, zmt_121, zmt_122, zmt_123, zmt_124, zmt_125, zmt_126, zmt_127, zmt_128, zmt_129, zmt_130, zmt_131, zmt_132, zmt_133, zmt_134, zmt_135, zmt_136, zrc_111_2, zrc_111_3, zrc_111_4, zrc_111_6, zrc_111_7, zrc_111_8, zrc_111_9, zrc_111_10, zrc_111_14, zrc_111_15, zrc_111_16, zrc_111_17, zrc_111_18, zrc_111_19, zrc_111_20, zrc_111_21, zrc_111_22, zrc_111_24, zrc_111_25, zrc_111_26, zrc_111_27, zrc_111_28, zrc_111_29, zrc_111_31, zrc_111_32, hat, g1, e1, v1, g, en, vn, q0, c1, c2, c3]
  · have : p = w := by omega
    subst this
    have g1 : nI (F + p) ≤ nI (F + p) := by (simp only [zt_eq, Int32.lt_iff_toInt_lt, Int32.le_iff_toInt_le, zt_add, zt_sub, zt_neg, zt_nI, zl_0, zl_1, zl_2, zl_3, zl_4, zl_5, zl_6, zl_7, zl_8, zl_9, zl_10, zl_16, zl_20, zl_30, zl_60, zl_1080, zl_m1, zl_m2, zl_m9]; omega)
    have n1 : ¬ (0 : Int32) = 112 := by decide
    have n2 : ¬ (0 : Int32) = 98 := by decide
    have n3 : ¬ (0 : Int32) = 116 := by decide
    simp only [zi_wp_c, zi_wK_if, zi_wK_go, zi_wK_no, zi_wK_b, zi_wK_r, zi_wK_c, zi_cc_i, zi_cc_n, zi_B_if, zi_ifF, zx_nop, zx_iconst, zx_bipush, zx_sipush, zx_lconst, zx_ldc2_w, zx_aconst_null, zx_iload, zx_iload_n, zx_lload, zx_lload_n, zx_aload, zx_aload_n, zx_istore, zx_istore_n, zx_lstore, zx_lstore_n, zx_astore, zx_astore_n, zx_iinc, zx_iadd, zx_isub, zx_imul, zx_iand, zx_ior, zx_ishl, zx_ishr, zx_idiv, zx_irem, zx_ladd, zx_ldiv, zx_lrem, zx_lcmp, zx_i2l, zx_i2b, zx_i2s, zx_pop, zx_dup, zx_dup2, zx_getfield, zx_putfield, zx_getstatic, zx_iaload, zx_iastore, zx_laload, zx_lastore, zx_aaload, zx_arraylength, zx_goto, zx_ifCond, zx_if_icmp, zx_ifnull, zx_ifnonnull, zx_tableswitch, zx_lookupswitch, zx_ireturn, zx_lreturn, zx_areturn, zx_return_, zx_invokestatic, zx_invokevirtual, zi_ldi, zi_ldl, zi_lda, zi_sti, zi_stl, zi_sta, zi_inc, zi_b2, zi_d2, zi_l2, zi_dl2, zi_lc, zi_u1, zi_pp, zi_dup, zi_dup2, zi_gf, zi_pf, zi_ial, zi_ias, zi_lal, zi_las, zi_aal, zi_aln, zi_cp, zi_cmp, zi_if, zi_ic, zi_nul, zi_nnl, zi_sw, zi_ri, zi_rl, zi_ra, zi_rv, zi_iv, zi_ivr, zi_st1, zi_st2, zq_get0, zq_getS, zq_getN, zq_put0, zq_putS, zq_putN0, zq_putNS, zq_kl0, zq_klS, zq_Ln, zq_Li, zq_Lr, zq_Lf, zq_Lz, zq_Ll, zq_ft0, zq_fti, zq_ftr, zq_ftz, zq_ftf, zq_ftl, zq_pop0, zq_popS, zq_la0, zq_lai, zq_lar, zq_laz, zq_laf, zq_lal, zq_sh0, zq_sh1, zq_sh2, zq_sh3, zq_sh4, zq_f0, zq_f1, zq_f2, zq_f3, zq_u0, zq_u1, zq_u2, zq_ro0, zq_ro1, zq_ro2, zq_fv0, zq_fv2, zq_rfs, zq_rfn, zq_gD0, zq_gDS, zq_gDN, zq_lk0, zq_lkS, zq_tb0, zq_tbS, zq_o0, zq_o1, zq_o2, zq_o98, zq_o99, zq_o100, zq_o105, zq_o107, zq_o112, zq_o115, zq_o116, zq_c0, zq_c1, zq_v0, zq_v1, decide_eq_true_eq, List.toList_toArray, if_true, if_false, ite_self, and_true, true_and, and_false, false_and, true_or, or_true, or_false, false_or, not_true_eq_false, not_false_eq_true, Bool.false_eq_true, reduceCtorEq, ne_eq, ite_not, eq_self, Prod.mk.injEq, Nat.reduceEqDiff, Nat.reduceSub, Nat.reduceAdd, Nat.reduceLT, Nat.reduceLeDiff, zb_125_0, zc_125_0, zb_125_1, zc_125_1, zb_125_2, zc_125_2, zb_125_3, zc_125_3, zb_125_4, zc_125_4, zb_125_5, zc_125_5, zb_125_6, zc_125_6, zmt_111, zmt_112, zmt_113, zmt_114, zmt_115, zmt_116, zmt_117, zmt_118, zmt_119, zmt_120, zmt_121, zmt_122, zmt_123, zmt_124, zmt_125, zmt_126, zmt_127, zmt_128, zmt_129, zmt_130, zmt_131, zmt_132, zmt_133, zmt_134, zmt_135, zmt_136, zrc_111_2, zrc_111_3, zrc_111_4, zrc_111_6, zrc_111_7, zrc_111_8, zrc_111_9, zrc_111_10, zrc_111_14, zrc_111_15, zrc_111_16, zrc_111_17, zrc_111_18, zrc_111_19, zrc_111_20, zrc_111_21, zrc_111_22, zrc_111_24, zrc_111_25, zrc_111_26, zrc_111_27, zrc_111_28, zrc_111_29, zrc_111_31, zrc_111_32, hat, g1, en, vn, q0, n1, n2, n3]
theorem zw4957 {v : Int32} : (¬ v < 48 + 1 ∧ ¬ 48 + 9 < v) ↔ (49 ≤ v ∧ v ≤ 57) := by
  rw [show (48 : Int32) + 1 = 49 from rfl, show (48 : Int32) + 9 = 57 from rfl, Int32.not_lt, Int32.not_lt]
theorem zw5156 {v : Int32} : (¬ v < 48 + 3 ∧ ¬ 48 + 8 < v) ↔ (51 ≤ v ∧ v ≤ 56) := by
  rw [show (48 : Int32) + 3 = 51 from rfl, show (48 : Int32) + 8 = 56 from rfl, Int32.not_lt, Int32.not_lt]
theorem s_m_readRound {k j w n ring p d : Nat} {x12 : Int32} {f : Nat → Int32} {rd : Nat → zRt} {R : Option Nat × zTt} {I0 I : Nat → Nat → Int32} (hk : k < 4) (hjw : j + w ≤ 60) (hf : ∀ t, t < 60 → I0 114 (60 * k + t) = f t) (hn : n < 6) (hp : p + d = w) (hok : zTok (3, ring, n + 1, va_up rd n zNw)) (hR : zTf f j d p (3, ring, n + 1, va_up rd n zNw) = R) (hrf : zRf I0 I) (h12 : I 111 12 = x12) (hat : I 111 11 = nI (60 * k + j + p)) (h13 : I 111 13 = nI ring) (hv : zMv I n rd)
    (hK0 : ∀ I' p', R.1 = some p' → zRf I0 I' → I' 111 11 = nI (60 * k + j + p') → K (some (.int 0)) (zm I' J))
    (hK1 : ∀ I' p' d' T', p' + d' = w → zTok T' → zTf f j d' p' T' = R → T'.1 = 5 → T'.2.1 = ring → T'.2.2.1 = n + 1 → 0 < (T'.2.2.2 n).2.2.1 → (d' = 0 ∨ (T'.2.2.2 n).2.2.1 = 5 ∨ zsO (f (j + p')) = none) → zRf I0 I' → I' 111 12 = x12 → I' 111 11 = nI (60 * k + j + p') → I' 111 13 = nI ring → zMv I' (n + 1) T'.2.2.2 → K (some (.int 1)) (zm I' J)) :
    zi_B sc 0 0 125 0 [some (.ref 111), some (.int (nI (60 * k + j + w))), some (.int (nI (n + 1)))] [] (zm I J) K := by
  have en : (nI (n + 1)).toNatClampNeg = n + 1 := nI_clamp (by omega)
  have vn : zi_vin (nI (n + 1)) 7 = true := zv_nI (by omega) (by omega)
  have hcell : ∀ I' : Nat → Nat → Int32, zRf I0 I' → ∀ q, q < w → I' 114 (60 * k + j + q) = f (j + q) := fun I' h q hq => by rw [h.1 114 (by omega), Nat.add_assoc]; exact hf _ (by omega)
  by_cases ck : d ≠ 0 ∧ ∃ kd, zkO (f (j + p)) = some kd
  rotate_left
  · have hno : d ≠ 0 → zkO (f (j + p)) = none := fun h => by
      cases e : zkO (f (j + p)) with
      | none => rfl
      | some kd => exact absurd ⟨h, kd, e⟩ ck
    rw [g_m_kn (F := 60 * k + j) (w := w) (p := p) (v := f (j + p)) hn hat (by omega) (by omega) (fun h => hcell I hrf p h) (fun h => hno (by omega))]
    refine hK0 _ p (zTf_no hR (fun _ => by show (3 : Nat) ≠ 5; omega) (fun h => zTk_3n (hno h))) (hrf.rw' (by omega)) ?_
    rw [zu_up_ne _ (by omega)]; exact hat
  obtain ⟨hd, kd, hkd⟩ := ck
  obtain ⟨d, rfl⟩ : ∃ d2, d = d2 + 1 := ⟨d - 1, by omega⟩
  have hs1 := zTk_3s (ring := ring) (n := n) (rd := rd) hkd
  have hR1 := zTf_st hR hs1
  have hok1 := zTk_ok hok hs1
  rw [g_m_kd (F := 60 * k + j) (w := w) (p := p) (v := f (j + p)) hn hat (by omega) (by omega) (hcell I hrf p (by omega)) hkd]
  generalize hI1 : zi_up (zi_up I 120 (n + 1) (nI kd)) 111 11 (nI (60 * k + j + p + 1)) = I1
  have hrf1 : zRf I0 I1 := by rw [← hI1]; exact (hrf.rw' (by omega)).at (by omega)
  have a0 : zi_up I 120 (n + 1) (nI kd) 111 11 = nI (60 * k + j + p) := by rw [zu_up_ne _ (by omega)]; exact hat
  have o1 : ∀ a, a ≠ 120 → a ≠ 111 → I1 a = I a := fun a b1 b2 => by rw [← hI1, zu_up_ne _ b2, zu_up_ne _ b1]
  have o2 : ∀ t, I1 111 t = if t = 11 then nI (60 * k + j + p + 1) else I 111 t := fun t => by rw [← hI1]; simp only [zu_up, if_true, Nat.reduceEqDiff, if_false]
  have o3 : ∀ t, I1 120 t = if t = n + 1 then nI kd else I 120 t := fun t => by rw [← hI1]; simp only [zu_up, if_true, Nat.reduceEqDiff, if_false]
  have hat1 : I1 111 11 = nI (60 * k + j + (p + 1)) := by rw [o2, if_pos rfl, Nat.add_assoc]
  have hdg := fun (K : Option Value → zi_M → Prop) => s_m_digit (sc := sc) (J := J) (K := K) (I := I1) (F := 60 * k + j) (w := w) (p := p + 1) (v := f (j + (p + 1))) (lo := 1) (hi := 9) hat1 (by omega) (by omega) (fun h => hcell I1 hrf1 (p + 1) h)
  have q0 : ∀ (I2 : Nat → Nat → Int32) (x : Int32), zi_up I2 121 (n + 1) x 121 (n + 1) = x := fun I2 x => by rw [zu_up, if_pos rfl, if_pos rfl]
  by_cases cs : d ≠ 0 ∧ 49 ≤ f (j + (p + 1)) ∧ f (j + (p + 1)) ≤ 57
  rotate_left
  · have hc : ¬ (p + 1 < w ∧ ¬ f (j + (p + 1)) < 48 + 1 ∧ ¬ 48 + 9 < f (j + (p + 1))) := fun h => cs ⟨by omega, zw4957.mp h.2⟩
    simp only [if_neg hc] at hdg
    rw [zb_125_7]
    simp only [zi_wp_c, zi_wK_if, zi_wK_go, zi_wK_no, zi_wK_b, zi_wK_r, zi_wK_c, zi_cc_i, zi_cc_n, zi_B_if, zi_ifF, zx_nop, zx_iconst, zx_bipush, zx_sipush, zx_lconst, zx_ldc2_w, zx_aconst_null, zx_iload, zx_iload_n, zx_lload, zx_lload_n, zx_aload, zx_aload_n, zx_istore, zx_istore_n, zx_lstore, zx_lstore_n, zx_astore, zx_astore_n, zx_iinc, zx_iadd, zx_isub, zx_imul, zx_iand, zx_ior, zx_ishl, zx_ishr, zx_idiv, zx_irem, zx_ladd, zx_ldiv, zx_lrem, zx_lcmp, zx_i2l, zx_i2b, zx_i2s, zx_pop, zx_dup, zx_dup2, zx_getfield, zx_putfield, zx_getstatic, zx_iaload, zx_iastore, zx_laload, zx_lastore, zx_aaload, zx_arraylength, zx_goto, zx_ifCond, zx_if_icmp, zx_ifnull, zx_ifnonnull, zx_tableswitch, zx_lookupswitch, zx_ireturn, zx_lreturn, zx_areturn, zx_return_, zx_invokestatic, zx_invokevirtual, zi_ldi, zi_ldl, zi_lda, zi_sti, zi_stl, zi_sta, zi_inc, zi_b2, zi_d2, zi_l2, zi_dl2, zi_lc, zi_u1, zi_pp, zi_dup, zi_dup2, zi_gf, zi_pf, zi_ial, zi_ias, zi_lal, zi_las, zi_aal, zi_aln, zi_cp, zi_cmp, zi_if, zi_ic, zi_nul, zi_nnl, zi_sw, zi_ri, zi_rl, zi_ra, zi_rv, zi_iv, zi_ivr, zi_st1, zi_st2, zq_get0, zq_getS, zq_getN, zq_put0, zq_putS, zq_putN0, zq_putNS, zq_kl0, zq_klS, zq_Ln, zq_Li, zq_Lr, zq_Lf, zq_Lz, zq_Ll, zq_ft0, zq_fti, zq_ftr, zq_ftz, zq_ftf, zq_ftl, zq_pop0, zq_popS, zq_la0, zq_lai, zq_lar, zq_laz, zq_laf, zq_lal, zq_sh0, zq_sh1, zq_sh2, zq_sh3, zq_sh4, zq_f0, zq_f1, zq_f2, zq_f3, zq_u0, zq_u1, zq_u2, zq_ro0, zq_ro1, zq_ro2, zq_fv0, zq_fv2, zq_rfs, zq_rfn, zq_gD0, zq_gDS, zq_gDN, zq_lk0, zq_lkS, zq_tb0, zq_tbS, zq_o0, zq_o1, zq_o2, zq_o98, zq_o99, zq_o100, zq_o105, zq_o107, zq_o112, zq_o115, zq_o116, zq_c0, zq_c1, zq_v0, zq_v1, decide_eq_true_eq, List.toList_toArray, if_true, if_false, ite_self, and_true, true_and, and_false, false_and, true_or, or_true, or_false, false_or, not_true_eq_false, not_false_eq_true, Bool.false_eq_true, reduceCtorEq, ne_eq, ite_not, eq_self, Prod.mk.injEq, Nat.reduceEqDiff, Nat.reduceSub, Nat.reduceAdd, Nat.reduceLT, Nat.reduceLeDiff, zmt_111, zmt_112, zmt_113, zmt_114, zmt_115, zmt_116, zmt_117, zmt_118, zmt_119, zmt_120, zmt_121, zmt_122, zmt_123, zmt_124, zmt_125, zmt_126, zmt_127, zmt_128, zmt_129, zmt_130, zmt_131, zmt_132, zmt_133, zmt_134, zmt_135, zmt_136, zrc_111_2, zrc_111_3, zrc_111_4, zrc_111_6, zrc_111_7, zrc_111_8, zrc_111_9, zrc_111_10, zrc_111_14, zrc_111_15, zrc_111_16, zrc_111_17, zrc_111_18, zrc_111_19, zrc_111_20, zrc_111_21, zrc_111_22, zrc_111_24, zrc_111_25, zrc_111_26, zrc_111_27, zrc_111_28, zrc_111_29, zrc_111_31, zrc_111_32, zc_125_7, a0, nI_1, hI1, hdg, en, vn, q0]
    refine hK0 _ (p + 1) (zTf_no hR1 (fun _ => by show (4 : Nat) ≠ 5; omega) (fun h => zTk_4n (fun q => cs ⟨h, q⟩))) (hrf1.rw' (by omega)) ?_
    rw [zu_up_ne _ (by omega)]; exact hat1
  obtain ⟨hd2, hs⟩ := cs
  obtain ⟨d, rfl⟩ : ∃ d2, d = d2 + 1 := ⟨d - 1, by omega⟩
  have hs2 := zTk_4s (ring := ring) (n := n) (kd := kd) (sg := fun _ => 0) (rd := rd) hs
  have hR2 := zTf_st hR1 hs2
  have hok2 := zTk_ok hok1 hs2
  have hc : p + 1 < w ∧ ¬ f (j + (p + 1)) < 48 + 1 ∧ ¬ 48 + 9 < f (j + (p + 1)) := ⟨by omega, zw4957.mpr hs⟩
  simp only [if_pos hc] at hdg
  obtain ⟨s1, s2, s3⟩ := zdg9 hs
  rw [s3] at hdg
  generalize (f (j + (p + 1))).toNatClampNeg - 48 = sp at s1 s2 hdg hR2 hok2
  have n9 : ¬ nI sp = -9 := by (simp only [zt_eq, Int32.lt_iff_toInt_lt, Int32.le_iff_toInt_le, zt_add, zt_sub, zt_neg, zt_nI, zl_0, zl_1, zl_2, zl_3, zl_4, zl_5, zl_6, zl_7, zl_8, zl_9, zl_10, zl_16, zl_20, zl_30, zl_60, zl_1080, zl_m1, zl_m2, zl_m9]; omega)
  generalize hI3 : zi_up (zi_up (zi_up I1 111 11 (nI (60 * k + j + (p + 1) + 1))) 121 (n + 1) (nI sp)) 122 (n + 1) 0 = I3
  have hrf3 : zRf I0 I3 := by rw [← hI3]; exact ((hrf1.at (by omega)).rw' (by omega)).rw' (by omega)
  have b1 : ∀ a, a ≠ 120 → a ≠ 121 → a ≠ 122 → a ≠ 111 → I3 a = I a := fun a x1 x2 x3 x4 => by rw [← hI3, zu_up_ne _ x3, zu_up_ne _ x2, zu_up_ne _ x4, o1 a x1 x4]
  have b2 : ∀ t, I3 111 t = if t = 11 then nI (60 * k + j + (p + 1) + 1) else I1 111 t := fun t => by rw [← hI3]; simp only [zu_up, if_true, Nat.reduceEqDiff, if_false]
  have b3 : ∀ t, I3 120 t = if t = n + 1 then nI kd else I 120 t := fun t => by rw [← o3, ← hI3]; simp only [zu_up, Nat.reduceEqDiff, if_false]
  have b4 : ∀ t, I3 121 t = if t = n + 1 then nI sp else I 121 t := fun t => by rw [← o1 121 (by omega) (by omega), ← hI3]; simp only [zu_up, if_true, Nat.reduceEqDiff, if_false]
  have b5 : ∀ t, I3 122 t = if t = n + 1 then 0 else I 122 t := fun t => by rw [← o1 122 (by omega) (by omega), ← hI3]; simp only [zu_up, if_true, Nat.reduceEqDiff, if_false]
  have key := l_m_r9 (sc := sc) (J := J) (K := K) (l3 := f (j + p)) (kd := kd) (sp := sp) hk hjw hf hn hK0 hK1 d (p + 1 + 1) 0 (fun _ => 0) I3 (by omega) hok2 hR2 hrf3 (by rw [b2, if_neg (by omega), o2, if_neg (by omega)]; exact h12) (by rw [b2, if_pos rfl, Nat.add_assoc (60 * k + j) (p + 1) 1]) (by rw [b2, if_neg (by omega), o2, if_neg (by omega)]; exact h13) (fun r hr => by
      obtain ⟨x1, x2, x3, x4⟩ := hv r hr
      exact ⟨by rw [b3, if_neg (by omega)]; exact x1, by rw [b4, if_neg (by omega)]; exact x2, by rw [b5, if_neg (by omega)]; exact x3, fun i hi => by rw [b1 123 (by omega) (by omega) (by omega) (by omega)]; exact x4 i hi⟩) (by rw [b3, if_pos rfl]) (by rw [b4, if_pos rfl]) (by rw [b5, if_pos rfl]; rfl) (fun i hi => absurd hi (Nat.not_lt_zero _))
  rw [zb_125_7]
  simp only [zi_wp_c, zi_wK_if, zi_wK_go, zi_wK_no, zi_wK_b, zi_wK_r, zi_wK_c, zi_cc_i, zi_cc_n, zi_B_if, zi_ifF, zx_nop, zx_iconst, zx_bipush, zx_sipush, zx_lconst, zx_ldc2_w, zx_aconst_null, zx_iload, zx_iload_n, zx_lload, zx_lload_n, zx_aload, zx_aload_n, zx_istore, zx_istore_n, zx_lstore, zx_lstore_n, zx_astore, zx_astore_n, zx_iinc, zx_iadd, zx_isub, zx_imul, zx_iand, zx_ior, zx_ishl, zx_ishr, zx_idiv, zx_irem, zx_ladd, zx_ldiv, zx_lrem, zx_lcmp, zx_i2l, zx_i2b, zx_i2s, zx_pop, zx_dup, zx_dup2, zx_getfield, zx_putfield, zx_getstatic, zx_iaload, zx_iastore, zx_laload, zx_lastore, zx_aaload, zx_arraylength, zx_goto, zx_ifCond, zx_if_icmp, zx_ifnull, zx_ifnonnull, zx_tableswitch, zx_lookupswitch, zx_ireturn, zx_lreturn, zx_areturn, zx_return_, zx_invokestatic, zx_invokevirtual, zi_ldi, zi_ldl, zi_lda, zi_sti, zi_stl, zi_sta, zi_inc, zi_b2, zi_d2, zi_l2, zi_dl2, zi_lc, zi_u1, zi_pp, zi_dup, zi_dup2, zi_gf, zi_pf, zi_ial, zi_ias, zi_lal, zi_las, zi_aal, zi_aln, zi_cp, zi_cmp, zi_if, zi_ic, zi_nul, zi_nnl, zi_sw, zi_ri, zi_rl, zi_ra, zi_rv, zi_iv, zi_ivr, zi_st1, zi_st2, zq_get0, zq_getS, zq_getN, zq_put0, zq_putS, zq_putN0, zq_putNS, zq_kl0, zq_klS, zq_Ln, zq_Li, zq_Lr, zq_Lf, zq_Lz, zq_Ll, zq_ft0, zq_fti, zq_ftr, zq_ftz, zq_ftf, zq_ftl, zq_pop0, zq_popS, zq_la0, zq_lai, zq_lar, zq_laz, zq_laf, zq_lal, zq_sh0, zq_sh1, zq_sh2, zq_sh3, zq_sh4, zq_f0, zq_f1, zq_f2, zq_f3, zq_u0, zq_u1, zq_u2, zq_ro0, zq_ro1, zq_ro2, zq_fv0, zq_fv2, zq_rfs, zq_rfn, zq_gD0, zq_gDS, zq_gDN, zq_lk0, zq_lkS, zq_tb0, zq_tbS, zq_o0, zq_o1, zq_o2, zq_o98, zq_o99, zq_o100, zq_o105, zq_o107, zq_o112, zq_o115, zq_o116, zq_c0, zq_c1, zq_v0, zq_v1, decide_eq_true_eq, List.toList_toArray, if_true, if_false, ite_self, and_true, true_and, and_false, false_and, true_or, or_true, or_false, false_or, not_true_eq_false, not_false_eq_true, Bool.false_eq_true, reduceCtorEq, ne_eq, ite_not, eq_self, Prod.mk.injEq, Nat.reduceEqDiff, Nat.reduceSub, Nat.reduceAdd, Nat.reduceLT, Nat.reduceLeDiff, zb_125_8, zc_125_8, zmt_111, zmt_112, zmt_113, zmt_114, zmt_115, zmt_116, zmt_117, zmt_118, zmt_119, zmt_120, zmt_121, zmt_122, zmt_123, zmt_124, zmt_125, zmt_126, zmt_127, zmt_128, zmt_129, zmt_130, zmt_131, zmt_132, zmt_133, zmt_134, zmt_135, zmt_136, zrc_111_2, zrc_111_3, zrc_111_4, zrc_111_6, zrc_111_7, zrc_111_8, zrc_111_9, zrc_111_10, zrc_111_14, zrc_111_15, zrc_111_16, zrc_111_17, zrc_111_18, zrc_111_19, zrc_111_20, zrc_111_21, zrc_111_22, zrc_111_24, zrc_111_25, zrc_111_26, zrc_111_27, zrc_111_28, zrc_111_29, zrc_111_31, zrc_111_32, zc_125_7, a0, nI_1, hI1, hdg, en, vn, q0, n9, hI3]
  exact key
end ZRZ
