/-! odds on both sides -/
theorem zand1 (x : Int32) : x &&& 1 = 0 ∨ x &&& 1 = 1 := by
  have h : (x &&& 1).toBitVec.toNat = x.toBitVec.toNat % 2 := by
    show (x.toBitVec &&& (1 : BitVec 32)).toNat = _
    rw [BitVec.toNat_and]
    exact Nat.and_one_is_mod _
  rcases Nat.mod_two_eq_zero_or_one x.toBitVec.toNat with c | c
  · left
    apply Int32.toBitVec_inj.mp
    apply BitVec.eq_of_toNat_eq
    rw [h, c]
    rfl
  · right
    apply Int32.toBitVec_inj.mp
    apply BitVec.eq_of_toNat_eq
    rw [h, c]
    rfl
/-- whether loop v's ROOTS hold k -/
def zbt (v : Int32) (k : Nat) : Nat := if v >>> (nI k &&& 31) &&& 1 = 1 then 1 else 0
theorem zbt_nI (v : Int32) (k : Nat) : v >>> (nI k &&& 31) &&& 1 = nI (zbt v k) := by
  unfold zbt
  rcases zand1 (v >>> (nI k &&& 31)) with c | c
  · rw [if_neg (by rw [c]; decide), c]; rfl
  · rw [if_pos c, c]; rfl
def zth (f : Nat → Int32) (k : Nat) : Nat → Nat
  | 0 => 0
  | c + 1 => zth f k c + zbt (f c) k
theorem zth_le (f : Nat → Int32) (k : Nat) : ∀ c, zth f k c ≤ c
  | 0 => Nat.le_refl _
  | c + 1 => by have := zth_le f k c; simp only [zth, zbt]; split <;> omega
theorem zth_cong {f g : Nat → Int32} {k : Nat} : ∀ c, (∀ i, i < c → f i = g i) → zth f k c = zth g k c
  | 0, _ => rfl
  | c + 1, h => by simp only [zth]; rw [zth_cong c (fun i hi => h i (by omega)), h c (by omega)]
section ZK
variable {sc : Nat × (Nat → Int32)} {I : Nat → Nat → Int32} {J : Nat → Nat → Int64} {K : Option Value → zi_M → Prop} {S : zS}
theorem l_x_odds {n L k : Nat} {w : Int32} {f : Nat → Int32} (hn : n < 7) (hL : L ≤ 60) (hc : I 2 2 = nI n) (hf : ∀ j, j < L → I (71 + n) j = f j) : ∀ d j, j + d = L → zi_B sc 0 0 76 3 [some (.ref 0), some (.int (nI k)), some (.int w), some (.int (nI L)), some (.int (nI (zth f k j))), some (.int (nI j))] [] (zm I J) K = zi_B sc 0 0 76 4 [some (.ref 0), some (.int (nI k)), some (.int w), some (.int (nI L)), some (.int (nI (zth f k L))), some (.int (nI L))] [] (zm I J) K := by
  obtain ⟨⟨-, -, -, r4, -⟩, -, -, -, m4, -⟩ := zL_row n hn
  have e0 : (nI n).toNatClampNeg = n := nI_clamp (by omega)
  have v0 : zi_vin (nI n) 7 = true := zv_nI (by omega) (by omega)
  intro d
  induction d with
  | zero =>
    intro j hj
    have : j = L := by omega
    subst this
    have c1 : nI j ≤ nI j := by (simp only [zt_eq, Int32.lt_iff_toInt_lt, Int32.le_iff_toInt_le, zt_add, zt_sub, zt_neg, zt_nI, zl_0, zl_1, zl_2, zl_3, zl_4, zl_5, zl_6, zl_7, zl_8, zl_9, zl_10, zl_16, zl_20, zl_30, zl_60, zl_1080, zl_m1, zl_m2, zl_m9]; omega)
    rw [zb_76_3]
    simp only [zi_wp_c, zi_wK_if, zi_wK_go, zi_wK_no, zi_wK_b, zi_wK_r, zi_wK_c, zi_cc_i, zi_cc_n, zi_B_if, zi_ifF, zx_nop, zx_iconst, zx_bipush, zx_sipush, zx_lconst, zx_ldc2_w, zx_aconst_null, zx_iload, zx_iload_n, zx_lload, zx_lload_n, zx_aload, zx_aload_n, zx_istore, zx_istore_n, zx_lstore, zx_lstore_n, zx_astore, zx_astore_n, zx_iinc, zx_iadd, zx_isub, zx_imul, zx_iand, zx_ior, zx_ishl, zx_ishr, zx_idiv, zx_irem, zx_ladd, zx_ldiv, zx_lrem, zx_lcmp, zx_i2l, zx_i2b, zx_i2s, zx_pop, zx_dup, zx_dup2, zx_getfield, zx_putfield, zx_getstatic, zx_iaload, zx_iastore, zx_laload, zx_lastore, zx_aaload, zx_arraylength, zx_goto, zx_ifCond, zx_if_icmp, zx_ifnull, zx_ifnonnull, zx_tableswitch, zx_lookupswitch, zx_ireturn, zx_lreturn, zx_areturn, zx_return_, zx_invokestatic, zx_invokevirtual, zi_ldi, zi_ldl, zi_lda, zi_sti, zi_stl, zi_sta, zi_inc, zi_b2, zi_d2, zi_l2, zi_dl2, zi_lc, zi_u1, zi_pp, zi_dup, zi_dup2, zi_gf, zi_pf, zi_ial, zi_ias, zi_lal, zi_las, zi_aal, zi_aln, zi_cp, zi_cmp, zi_if, zi_ic, zi_nul, zi_nnl, zi_sw, zi_ri, zi_rl, zi_ra, zi_rv, zi_iv, zi_ivr, zi_st1, zi_st2, zq_get0, zq_getS, zq_getN, zq_put0, zq_putS, zq_putN0, zq_putNS, zq_kl0, zq_klS, zq_Ln, zq_Li, zq_Lr, zq_Lf, zq_Lz, zq_Ll, zq_ft0, zq_fti, zq_ftr, zq_ftz, zq_ftf, zq_ftl, zq_pop0, zq_popS, zq_la0, zq_lai, zq_lar, zq_laz, zq_laf, zq_lal, zq_sh0, zq_sh1, zq_sh2, zq_sh3, zq_sh4, zq_f0, zq_f1, zq_f2, zq_f3, zq_u0, zq_u1, zq_u2, zq_ro0, zq_ro1, zq_ro2, zq_fv0, zq_fv2, zq_rfs, zq_rfn, zq_gD0, zq_gDS, zq_gDN, zq_lk0, zq_lkS, zq_tb0, zq_tbS, zq_o0, zq_o1, zq_o2, zq_o98, zq_o99, zq_o100, zq_o105, zq_o107, zq_o112, zq_o115, zq_o116, zq_c0, zq_c1, zq_v0, zq_v1, decide_eq_true_eq, List.toList_toArray, if_true, if_false, ite_self, and_true, true_and, and_false, false_and, true_or, or_true, or_false, false_or, not_true_eq_false, not_false_eq_true, Bool.false_eq_true, reduceCtorEq, ne_eq, ite_not, eq_self, Prod.mk.injEq, Nat.reduceEqDiff, Nat.reduceSub, Nat.reduceAdd, Nat.reduceLT, Nat.reduceLeDiff, zc_76_3, c1]
  | succ d ih =>
    intro j hj
    have c1 : ¬ nI L ≤ nI j := by (simp only [zt_eq, Int32.lt_iff_toInt_lt, Int32.le_iff_toInt_le, zt_add, zt_sub, zt_neg, zt_nI, zl_0, zl_1, zl_2, zl_3, zl_4, zl_5, zl_6, zl_7, zl_8, zl_9, zl_10, zl_16, zl_20, zl_30, zl_60, zl_1080, zl_m1, zl_m2, zl_m9]; omega)
    have e1 : (nI j).toNatClampNeg = j := nI_clamp (by omega)
    have v1 : zi_vin (nI j) 60 = true := zv_nI (by omega) (by omega)
    have f1 := hf j (by omega)
    have ih2 := ih (j + 1) (by omega)
    simp only [zth] at ih2
    rw [zb_76_3]
    simp only [zi_wp_c, zi_wK_if, zi_wK_go, zi_wK_no, zi_wK_b, zi_wK_r, zi_wK_c, zi_cc_i, zi_cc_n, zi_B_if, zi_ifF, zx_nop, zx_iconst, zx_bipush, zx_sipush, zx_lconst, zx_ldc2_w, zx_aconst_null, zx_iload, zx_iload_n, zx_lload, zx_lload_n, zx_aload, zx_aload_n, zx_istore, zx_istore_n, zx_lstore, zx_lstore_n, zx_astore, zx_astore_n, zx_iinc, zx_iadd, zx_isub, zx_imul, zx_iand, zx_ior, zx_ishl, zx_ishr, zx_idiv, zx_irem, zx_ladd, zx_ldiv, zx_lrem, zx_lcmp, zx_i2l, zx_i2b, zx_i2s, zx_pop, zx_dup, zx_dup2, zx_getfield, zx_putfield, zx_getstatic, zx_iaload, zx_iastore, zx_laload, zx_lastore, zx_aaload, zx_arraylength, zx_goto, zx_ifCond, zx_if_icmp, zx_ifnull, zx_ifnonnull, zx_tableswitch, zx_lookupswitch, zx_ireturn, zx_lreturn, zx_areturn, zx_return_, zx_invokestatic, zx_invokevirtual, zi_ldi, zi_ldl, zi_lda, zi_sti, zi_stl, zi_sta, zi_inc, zi_b2, zi_d2, zi_l2, zi_dl2, zi_lc, zi_u1, zi_pp, zi_dup, zi_dup2, zi_gf, zi_pf, zi_ial, zi_ias, zi_lal, zi_las, zi_aal, zi_aln, zi_cp, zi_cmp, zi_if, zi_ic, zi_nul, zi_nnl, zi_sw, zi_ri, zi_rl, zi_ra, zi_rv, zi_iv, zi_ivr, zi_st1, zi_st2, zq_get0, zq_getS, zq_getN, zq_put0, zq_putS, zq_putN0, zq_putNS, zq_kl0, zq_klS, zq_Ln, zq_Li, zq_Lr, zq_Lf, zq_Lz, zq_Ll, zq_ft0, zq_fti, zq_ftr, zq_ftz, zq_ftf, zq_ftl, zq_pop0, zq_popS, zq_la0, zq_lai, zq_lar, zq_laz, zq_laf, zq_lal, zq_sh0, zq_sh1, zq_sh2, zq_sh3, zq_sh4, zq_f0, zq_f1, zq_f2, zq_f3, zq_u0, zq_u1, zq_u2, zq_ro0, zq_ro1, zq_ro2, zq_fv0, zq_fv2, zq_rfs, zq_rfn, zq_gD0, zq_gDS, zq_gDN, zq_lk0, zq_lkS, zq_tb0, zq_tbS, zq_o0, zq_o1, zq_o2, zq_o98, zq_o99, zq_o100, zq_o105, zq_o107, zq_o112, zq_o115, zq_o116, zq_c0, zq_c1, zq_v0, zq_v1, decide_eq_true_eq, List.toList_toArray, if_true, if_false, ite_self, and_true, true_and, and_false, false_and, true_or, or_true, or_false, false_or, not_true_eq_false, not_false_eq_true, Bool.false_eq_true, reduceCtorEq, ne_eq, ite_not, eq_self, Prod.mk.injEq, Nat.reduceEqDiff, Nat.reduceSub, Nat.reduceAdd, Nat.reduceLT, Nat.reduceLeDiff, zmt_0, zmt_1, zmt_2, zmt_3, zmt_16, zmt_17, zmt_30, zmt_31, zmt_32, zmt_45, zmt_46, zmt_54, zmt_62, zmt_70, zmt_78, zmt_86, zmt_87, zmt_88, zmt_89, zmt_90, zmt_91, zmt_92, zmt_93, zmt_94, zmt_95, zmt_96, zrc_0_0, zrc_0_1, zrc_0_2, zrc_0_3, zrc_0_4, zrc_0_5, zrc_0_6, zrc_2_3, zrc_16_3, zrc_30_0, zrc_31_3, zrc_45_0, zrc_45_1, zrc_45_2, zrc_45_3, zrc_45_4, zrc_86_1, zrc_86_2, zrc_89_0, zrc_89_1, zrc_89_4, zrc_89_5, zrc_89_6, zrc_89_7, zrc_89_8, zc_76_3, c1, e0, v0, e1, v1, hc, r4, m4, f1, zbt_nI, nI_add]
    rw [show nI j + 1 = nI (j + 1) from nI_1 j]
    exact ih2
end ZK
