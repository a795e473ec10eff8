/-! m keeps its piece, and puts it back -/
theorem zn9 (k : Nat) : (9 : Int32) * nI k = nI (9 * k) := by
  show Int32.ofNat 9 * Int32.ofNat k = Int32.ofNat (9 * k)
  rw [Int32.ofNat_mul]
theorem zn5 (k : Nat) : (5 : Int32) * nI k = nI (5 * k) := by
  show Int32.ofNat 5 * Int32.ofNat k = Int32.ofNat (5 * k)
  rw [Int32.ofNat_mul]
theorem zna2 (k : Nat) : nI k + 2 = nI (k + 2) := nI_add k 2
theorem zna3 (k : Nat) : nI k + 3 = nI (k + 3) := nI_add k 3
theorem zna4 (k : Nat) : nI k + 4 = nI (k + 4) := nI_add k 4
def zKr (I0 I : Nat → Nat → Int32) (r : Nat) : Prop := (I 129 (9 * r) = I0 115 r ∧ I 129 (9 * r + 1) = I0 116 r ∧ I 129 (9 * r + 2) = I0 117 r ∧ I 129 (9 * r + 3) = I0 118 r) ∧ ∀ i, i < 5 → I 129 (9 * r + 4 + i) = I0 119 (5 * r + i)
def zPb (I0 I : Nat → Nat → Int32) (r : Nat) : Prop := (I 115 r = I0 115 r ∧ I 116 r = I0 116 r ∧ I 117 r = I0 117 r ∧ I 118 r = I0 118 r) ∧ ∀ i, i < 5 → I 119 (5 * r + i) = I0 119 (5 * r + i)
section ZKE
variable {sc : Nat × (Nat → Int32)} {J : Nat → Nat → Int64} {K : Option Value → zi_M → Prop}
theorem l_m_k2 {r : Nat} {I0 : Nat → Nat → Int32} (hr : r < 7) : ∀ d i (I : Nat → Nat → Int32), i + d = 5 → zAg 129 130 I0 I → (I 129 (9 * r) = I0 115 r ∧ I 129 (9 * r + 1) = I0 116 r ∧ I 129 (9 * r + 2) = I0 117 r ∧ I 129 (9 * r + 3) = I0 118 r) → (∀ u, u < i → I 129 (9 * r + 4 + u) = I0 119 (5 * r + u)) → (∀ r', r' < r → zKr I0 I r') →
    (∀ I', zAg 129 130 I0 I' → (∀ r', r' < r + 1 → zKr I0 I' r') → zi_B sc 0 0 143 3 [some (.ref 111), some (.int (nI r)), some (.int (nI 5))] [] (zm I' J) K) →
    zi_B sc 0 0 143 2 [some (.ref 111), some (.int (nI r)), some (.int (nI i))] [] (zm I J) K := by
  intro d
  induction d with
  | zero =>
    intro i I hi ha h4 hu hb hK
    have : i = 5 := by omega
    subst this
    have c1 : (5 : Int32) ≤ nI 5 := by decide
    rw [zb_143_2]
    simp only [zi_wp_c, zi_wK_if, zi_wK_go, zi_wK_no, zi_wK_b, zi_wK_r, zi_wK_c, zi_cc_i, zi_cc_n, zi_B_if, zi_ifF, zx_nop, zx_iconst, zx_bipush, zx_sipush, zx_lconst, zx_ldc2_w, zx_aconst_null, zx_iload, zx_iload_n, zx_lload, zx_lload_n, zx_aload, zx_aload_n, zx_istore, zx_istore_n, zx_lstore, zx_lstore_n, zx_astore, zx_astore_n, zx_iinc, zx_iadd, zx_isub, zx_imul, zx_iand, zx_ior, zx_ishl, zx_ishr, zx_idiv, zx_irem, zx_ladd, zx_ldiv, zx_lrem, zx_lcmp, zx_i2l, zx_i2b, zx_i2s, zx_pop, zx_dup, zx_dup2, zx_getfield, zx_putfield, zx_getstatic, zx_iaload, zx_iastore, zx_laload, zx_lastore, zx_aaload, zx_arraylength, zx_goto, zx_ifCond, zx_if_icmp, zx_ifnull, zx_ifnonnull, zx_tableswitch, zx_lookupswitch, zx_ireturn, zx_lreturn, zx_areturn, zx_return_, zx_invokestatic, zx_invokevirtual, zi_ldi, zi_ldl, zi_lda, zi_sti, zi_stl, zi_sta, zi_inc, zi_b2, zi_d2, zi_l2, zi_dl2, zi_lc, zi_u1, zi_pp, zi_dup, zi_dup2, zi_gf, zi_pf, zi_ial, zi_ias, zi_lal, zi_las, zi_aal, zi_aln, zi_cp, zi_cmp, zi_if, zi_ic, zi_nul, zi_nnl, zi_sw, zi_ri, zi_rl, zi_ra, zi_rv, zi_iv, zi_ivr, zi_st1, zi_st2, zq_get0, zq_getS, zq_getN, zq_put0, zq_putS, zq_putN0, zq_putNS, zq_kl0, zq_klS, zq_Ln, zq_Li, zq_Lr, zq_Lf, zq_Lz, zq_Ll, zq_ft0, zq_fti, zq_ftr, zq_ftz, zq_ftf, zq_ftl, zq_pop0, zq_popS, zq_la0, zq_lai, zq_lar, zq_laz, zq_laf, zq_lal, zq_sh0, zq_sh1, zq_sh2, zq_sh3, zq_sh4, zq_f0, zq_f1, zq_f2, zq_f3, zq_u0, zq_u1, zq_u2, zq_ro0, zq_ro1, zq_ro2, zq_fv0, zq_fv2, zq_rfs, zq_rfn, zq_gD0, zq_gDS, zq_gDN, zq_lk0, zq_lkS, zq_tb0, zq_tbS, zq_o0, zq_o1, zq_o2, zq_o98, zq_o99, zq_o100, zq_o105, zq_o107, zq_o112, zq_o115, zq_o116, zq_c0, zq_c1, zq_v0, zq_v1, decide_eq_true_eq, List.toList_toArray, if_true, if_false, ite_self, and_true, true_and, and_false, false_and, true_or, or_true, or_false, false_or, not_true_eq_false, not_false_eq_true, Bool.false_eq_true, reduceCtorEq, ne_eq, ite_not, eq_self, Prod.mk.injEq, Nat.reduceEqDiff, Nat.reduceSub, Nat.reduceAdd, Nat.reduceLT, Nat.reduceLeDiff, zc_143_2, c1]
    refine hK I ha (fun r' hr' => ?_)
    by_cases e : r' = r
    · subst e; exact ⟨h4, hu⟩
    · exact hb r' (by omega)
  | succ d ih =>
    intro i I hi ha h4 hu hb hK
    have c1 : ¬ (5 : Int32) ≤ nI i := by (simp only [zt_eq, Int32.lt_iff_toInt_lt, Int32.le_iff_toInt_le, zt_add, zt_sub, zt_neg, zt_nI, zl_0, zl_1, zl_2, zl_3, zl_4, zl_5, zl_6, zl_7, zl_8, zl_9, zl_10, zl_16, zl_20, zl_30, zl_60, zl_1080, zl_m1, zl_m2, zl_m9]; omega)
    have e1 : (nI (9 * r + 4 + i)).toNatClampNeg = 9 * r + 4 + i := nI_clamp (by omega)
    have v1 : zi_vin (nI (9 * r + 4 + i)) 63 = true := zv_nI (by omega) (by omega)
    have e2 : (nI (5 * r + i)).toNatClampNeg = 5 * r + i := nI_clamp (by omega)
    have v2 : zi_vin (nI (5 * r + i)) 35 = true := zv_nI (by omega) (by omega)
    have f1 : I 119 (5 * r + i) = I0 119 (5 * r + i) := by rw [ha 119 (by omega)]
    rw [zb_143_2]
    simp only [zi_wp_c, zi_wK_if, zi_wK_go, zi_wK_no, zi_wK_b, zi_wK_r, zi_wK_c, zi_cc_i, zi_cc_n, zi_B_if, zi_ifF, zx_nop, zx_iconst, zx_bipush, zx_sipush, zx_lconst, zx_ldc2_w, zx_aconst_null, zx_iload, zx_iload_n, zx_lload, zx_lload_n, zx_aload, zx_aload_n, zx_istore, zx_istore_n, zx_lstore, zx_lstore_n, zx_astore, zx_astore_n, zx_iinc, zx_iadd, zx_isub, zx_imul, zx_iand, zx_ior, zx_ishl, zx_ishr, zx_idiv, zx_irem, zx_ladd, zx_ldiv, zx_lrem, zx_lcmp, zx_i2l, zx_i2b, zx_i2s, zx_pop, zx_dup, zx_dup2, zx_getfield, zx_putfield, zx_getstatic, zx_iaload, zx_iastore, zx_laload, zx_lastore, zx_aaload, zx_arraylength, zx_goto, zx_ifCond, zx_if_icmp, zx_ifnull, zx_ifnonnull, zx_tableswitch, zx_lookupswitch, zx_ireturn, zx_lreturn, zx_areturn, zx_return_, zx_invokestatic, zx_invokevirtual, zi_ldi, zi_ldl, zi_lda, zi_sti, zi_stl, zi_sta, zi_inc, zi_b2, zi_d2, zi_l2, zi_dl2, zi_lc, zi_u1, zi_pp, zi_dup, zi_dup2, zi_gf, zi_pf, zi_ial, zi_ias, zi_lal, zi_las, zi_aal, zi_aln, zi_cp, zi_cmp, zi_if, zi_ic, zi_nul, zi_nnl, zi_sw, zi_ri, zi_rl, zi_ra, zi_rv, zi_iv, zi_ivr, zi_st1, zi_st2, zq_get0, zq_getS, zq_getN, zq_put0, zq_putS, zq_putN0, zq_putNS, zq_kl0, zq_klS, zq_Ln, zq_Li, zq_Lr, zq_Lf, zq_Lz, zq_Ll, zq_ft0, zq_fti, zq_ftr, zq_ftz, zq_ftf, zq_ftl, zq_pop0, zq_popS, zq_la0, zq_lai, zq_lar, zq_laz, zq_laf, zq_lal, zq_sh0, zq_sh1, zq_sh2, zq_sh3, zq_sh4, zq_f0, zq_f1, zq_f2, zq_f3, zq_u0, zq_u1, zq_u2, zq_ro0, zq_ro1, zq_ro2, zq_fv0, zq_fv2, zq_rfs, zq_rfn, zq_gD0, zq_gDS, zq_gDN, zq_lk0, zq_lkS, zq_tb0, zq_tbS, zq_o0, zq_o1, zq_o2, zq_o98, zq_o99, zq_o100, zq_o105, zq_o107, zq_o112, zq_o115, zq_o116, zq_c0, zq_c1, zq_v0, zq_v1, decide_eq_true_eq, List.toList_toArray, if_true, if_false, ite_self, and_true, true_and, and_false, false_and, true_or, or_true, or_false, false_or, not_true_eq_false, not_false_eq_true, Bool.false_eq_true, reduceCtorEq, ne_eq, ite_not, eq_self, Prod.mk.injEq, Nat.reduceEqDiff, Nat.reduceSub, Nat.reduceAdd, Nat.reduceLT, Nat.reduceLeDiff, zmt_111, zmt_112, zmt_113, zmt_114, zmt_115, zmt_116, zmt_117, zmt_118, zmt_119, zmt_120, zmt_121, zmt_122, zmt_123, zmt_124, zmt_125, zmt_126, zmt_127, zmt_128, zmt_129, zmt_130, zmt_131, zmt_132, zmt_133, zmt_134, zmt_135, zmt_136, zrc_111_2, zrc_111_3, zrc_111_4, zrc_111_6, zrc_111_7, zrc_111_8, zrc_111_9, zrc_111_10, zrc_111_14, zrc_111_15, zrc_111_16, zrc_111_17, zrc_111_18, zrc_111_19, zrc_111_20, zrc_111_21, zrc_111_22, zrc_111_24, zrc_111_25, zrc_111_26, zrc_111_27, zrc_111_28, zrc_111_29, zrc_111_31, zrc_111_32, zc_143_2, c1, zn_5, zn9, zna4, nI_add, e1, v1, e2, v2, f1, nI_1]
    refine ih (i + 1) _ (by omega) (ha.up (by omega) (by omega)) ⟨?_, ?_, ?_, ?_⟩ (fun u hu2 => ?_) (fun r' hr' => ?_) hK
    · rw [zu_up, if_pos rfl, if_neg (by omega)]; exact h4.1
    · rw [zu_up, if_pos rfl, if_neg (by omega)]; exact h4.2.1
    · rw [zu_up, if_pos rfl, if_neg (by omega)]; exact h4.2.2.1
    · rw [zu_up, if_pos rfl, if_neg (by omega)]; exact h4.2.2.2
    · rw [zu_up, if_pos rfl]
      by_cases e : u = i
      · rw [if_pos (by omega), e]
      · rw [if_neg (by omega)]; exact hu u (by omega)
    · obtain ⟨⟨b1, b2, b3, b4⟩, b5⟩ := hb r' hr'
      refine ⟨⟨?_, ?_, ?_, ?_⟩, fun u hu2 => ?_⟩
      · rw [zu_up, if_pos rfl, if_neg (by omega)]; exact b1
      · rw [zu_up, if_pos rfl, if_neg (by omega)]; exact b2
      · rw [zu_up, if_pos rfl, if_neg (by omega)]; exact b3
      · rw [zu_up, if_pos rfl, if_neg (by omega)]; exact b4
      · rw [zu_up, if_pos rfl, if_neg (by omega)]; exact b5 u hu2
theorem l_m_k1 {I0 : Nat → Nat → Int32} : ∀ d r (I : Nat → Nat → Int32) (tl : zL1), r + d = 7 → (tl = [] ∨ ∃ x : Int32, tl = [some (.int x)]) → zAg 129 130 I0 I → (∀ r', r' < r → zKr I0 I r') →
    (∀ I', zAg 129 130 I0 I' → (∀ r', r' < 7 → zKr I0 I' r') → K none (zm I' J)) →
    zi_B sc 0 0 143 1 ([some (.ref 111), some (.int (nI r))] ++ tl) [] (zm I J) K := by
  intro d
  induction d with
  | zero =>
    intro r I tl hi hl ha hb hK
    have : r = 7 := by omega
    subst this
    have c1 : (7 : Int32) ≤ nI 7 := by decide
    rw [zb_143_1]
    rcases hl with rfl | ⟨x, rfl⟩
    all_goals simp only [List.append_nil, List.cons_append, List.nil_append]
    all_goals simp only [zi_wp_c, zi_wK_if, zi_wK_go, zi_wK_no, zi_wK_b, zi_wK_r, zi_wK_c, zi_cc_i, zi_cc_n, zi_B_if, zi_ifF, zx_nop, zx_iconst, zx_bipush, zx_sipush, zx_lconst, zx_ldc2_w, zx_aconst_null, zx_iload, zx_iload_n, zx_lload, zx_lload_n, zx_aload, zx_aload_n, zx_istore, zx_istore_n, zx_lstore, zx_lstore_n, zx_astore, zx_astore_n, zx_iinc, zx_iadd, zx_isub, zx_imul, zx_iand, zx_ior, zx_ishl, zx_ishr, zx_idiv, zx_irem, zx_ladd, zx_ldiv, zx_lrem, zx_lcmp, zx_i2l, zx_i2b, zx_i2s, zx_pop, zx_dup, zx_dup2, zx_getfield, zx_putfield, zx_getstatic, zx_iaload, zx_iastore, zx_laload, zx_lastore, zx_aaload, zx_arraylength, zx_goto, zx_ifCond, zx_if_icmp, zx_ifnull, zx_ifnonnull, zx_tableswitch, zx_lookupswitch, zx_ireturn, zx_lreturn, zx_areturn, zx_return_, zx_invokestatic, zx_invokevirtual, zi_ldi, zi_ldl, zi_lda, zi_sti, zi_stl, zi_sta, zi_inc, zi_b2, zi_d2, zi_l2, zi_dl2, zi_lc, zi_u1, zi_pp, zi_dup, zi_dup2, zi_gf, zi_pf, zi_ial, zi_ias, zi_lal, zi_las, zi_aal, zi_aln, zi_cp, zi_cmp, zi_if, zi_ic, zi_nul, zi_nnl, zi_sw, zi_ri, zi_rl, zi_ra, zi_rv, zi_iv, zi_ivr, zi_st1, zi_st2, zq_get0, zq_getS, zq_getN, zq_put0, zq_putS, zq_putN0, zq_putNS, zq_kl0, zq_klS, zq_Ln, zq_Li, zq_Lr, zq_Lf, zq_Lz, zq_Ll, zq_ft0, zq_fti, zq_ftr, zq_ftz, zq_ftf, zq_ftl, zq_pop0, zq_popS, zq_la0, zq_lai, zq_lar, zq_laz, zq_laf, zq_lal, zq_sh0, zq_sh1, zq_sh2, zq_sh3, zq_sh4, zq_f0, zq_f1, zq_f2, zq_f3, zq_u0, zq_u1, zq_u2, zq_ro0, zq_ro1, zq_ro2, zq_fv0, zq_fv2, zq_rfs, zq_rfn, zq_gD0, zq_gDS, zq_gDN, zq_lk0, zq_lkS, zq_tb0, zq_tbS, zq_o0, zq_o1, zq_o2, zq_o98, zq_o99, zq_o100, zq_o105, zq_o107, zq_o112, zq_o115, zq_o116, zq_c0, zq_c1, zq_v0, zq_v1, decide_eq_true_eq, List.toList_toArray, if_true, if_false, ite_self, and_true, true_and, and_false, false_and, true_or, or_true, or_false, false_or, not_true_eq_false, not_false_eq_true, Bool.false_eq_true, reduceCtorEq, ne_eq, ite_not, eq_self, Prod.mk.injEq, Nat.reduceEqDiff, Nat.reduceSub, Nat.reduceAdd, Nat.reduceLT, Nat.reduceLeDiff, zb_143_4, zc_143_4, zc_143_1, c1]
    all_goals exact hK I ha hb
  | succ d ih =>
    intro r I tl hi hl ha hb hK
    have c1 : ¬ (7 : Int32) ≤ nI r := by (simp only [zt_eq, Int32.lt_iff_toInt_lt, Int32.le_iff_toInt_le, zt_add, zt_sub, zt_neg, zt_nI, zl_0, zl_1, zl_2, zl_3, zl_4, zl_5, zl_6, zl_7, zl_8, zl_9, zl_10, zl_16, zl_20, zl_30, zl_60, zl_1080, zl_m1, zl_m2, zl_m9]; omega)
    have e0 : (nI r).toNatClampNeg = r := nI_clamp (by omega)
    have v0 : zi_vin (nI r) 7 = true := zv_nI (by omega) (by omega)
    have e1 : (nI (9 * r)).toNatClampNeg = 9 * r := nI_clamp (by omega)
    have v1 : zi_vin (nI (9 * r)) 63 = true := zv_nI (by omega) (by omega)
    have e2 : (nI (9 * r + 1)).toNatClampNeg = 9 * r + 1 := nI_clamp (by omega)
    have v2 : zi_vin (nI (9 * r + 1)) 63 = true := zv_nI (by omega) (by omega)
    have e3 : (nI (9 * r + 2)).toNatClampNeg = 9 * r + 2 := nI_clamp (by omega)
    have v3 : zi_vin (nI (9 * r + 2)) 63 = true := zv_nI (by omega) (by omega)
    have e4 : (nI (9 * r + 3)).toNatClampNeg = 9 * r + 3 := nI_clamp (by omega)
    have v4 : zi_vin (nI (9 * r + 3)) 63 = true := zv_nI (by omega) (by omega)
    have f1 : I 115 = I0 115 := ha 115 (by omega)
    have q2 : ∀ (I2 : Nat → Nat → Int32) k (v : Int32), zi_up I2 129 k v 116 = I2 116 := fun I2 k v => zu_up_ne _ (by omega)
    have q3 : ∀ (I2 : Nat → Nat → Int32) k (v : Int32), zi_up I2 129 k v 117 = I2 117 := fun I2 k v => zu_up_ne _ (by omega)
    have q4 : ∀ (I2 : Nat → Nat → Int32) k (v : Int32), zi_up I2 129 k v 118 = I2 118 := fun I2 k v => zu_up_ne _ (by omega)
    have f2 : I 116 = I0 116 := ha 116 (by omega)
    have f3 : I 117 = I0 117 := ha 117 (by omega)
    have f4 : I 118 = I0 118 := ha 118 (by omega)
    have key := l_m_k2 (sc := sc) (J := J) (K := K) (I0 := I0) (show r < 7 by omega) 5 0 (zi_up (zi_up (zi_up (zi_up I 129 (9 * r) (I0 115 r)) 129 (9 * r + 1) (I0 116 r)) 129 (9 * r + 2) (I0 117 r)) 129 (9 * r + 3) (I0 118 r)) (by omega) ((((ha.up (by omega) (by omega)).up (by omega) (by omega)).up (by omega) (by omega)).up (by omega) (by omega))
      ⟨by simp only [zu_up, if_true]; rw [if_neg (by omega), if_neg (by omega), if_neg (by omega)], by simp only [zu_up, if_true]; rw [if_neg (by omega), if_neg (by omega)], by simp only [zu_up, if_true]; rw [if_neg (by omega)], by simp only [zu_up, if_true]⟩ (fun u hu => absurd hu (Nat.not_lt_zero _))
      (fun r' hr' => by
        obtain ⟨⟨b1, b2, b3, b4⟩, b5⟩ := hb r' hr'
        refine ⟨⟨?_, ?_, ?_, ?_⟩, fun u hu2 => ?_⟩
        · simp only [zu_up, if_true]; rw [if_neg (by omega), if_neg (by omega), if_neg (by omega), if_neg (by omega)]; exact b1
        · simp only [zu_up, if_true]; rw [if_neg (by omega), if_neg (by omega), if_neg (by omega), if_neg (by omega)]; exact b2
        · simp only [zu_up, if_true]; rw [if_neg (by omega), if_neg (by omega), if_neg (by omega), if_neg (by omega)]; exact b3
        · simp only [zu_up, if_true]; rw [if_neg (by omega), if_neg (by omega), if_neg (by omega), if_neg (by omega)]; exact b4
        · simp only [zu_up, if_true]; rw [if_neg (by omega), if_neg (by omega), if_neg (by omega), if_neg (by omega)]; exact b5 u hu2)
      (fun I' a1 a2 => by
        have ih2 := ih (r + 1) I' [some (.int (nI 5))] (by omega) (Or.inr ⟨_, rfl⟩) a1 a2 hK
        simp only [List.cons_append, List.nil_append] at ih2
        rw [zb_143_3]
        simp only [zi_wp_c, zi_wK_if, zi_wK_go, zi_wK_no, zi_wK_b, zi_wK_r, zi_wK_c, zi_cc_i, zi_cc_n, zi_B_if, zi_ifF, zx_nop, zx_iconst, zx_bipush, zx_sipush, zx_lconst, zx_ldc2_w, zx_aconst_null, zx_iload, zx_iload_n, zx_lload, zx_lload_n, zx_aload, zx_aload_n, zx_istore, zx_istore_n, zx_lstore, zx_lstore_n, zx_astore, zx_astore_n, zx_iinc, zx_iadd, zx_isub, zx_imul, zx_iand, zx_ior, zx_ishl, zx_ishr, zx_idiv, zx_irem, zx_ladd, zx_ldiv, zx_lrem, zx_lcmp, zx_i2l, zx_i2b, zx_i2s, zx_pop, zx_dup, zx_dup2, zx_getfield, zx_putfield, zx_getstatic, zx_iaload, zx_iastore, zx_laload, zx_lastore, zx_aaload, zx_arraylength, zx_goto, zx_ifCond, zx_if_icmp, zx_ifnull, zx_ifnonnull, zx_tableswitch, zx_lookupswitch, zx_ireturn, zx_lreturn, zx_areturn, zx_return_, zx_invokestatic, zx_invokevirtual, zi_ldi, zi_ldl, zi_lda, zi_sti, zi_stl, zi_sta, zi_inc, zi_b2, zi_d2, zi_l2, zi_dl2, zi_lc, zi_u1, zi_pp, zi_dup, zi_dup2, zi_gf, zi_pf, zi_ial, zi_ias, zi_lal, zi_las, zi_aal, zi_aln, zi_cp, zi_cmp, zi_if, zi_ic, zi_nul, zi_nnl, zi_sw, zi_ri, zi_rl, zi_ra, zi_rv, zi_iv, zi_ivr, zi_st1, zi_st2, zq_get0, zq_getS, zq_getN, zq_put0, zq_putS, zq_putN0, zq_putNS, zq_kl0, zq_klS, zq_Ln, zq_Li, zq_Lr, zq_Lf, zq_Lz, zq_Ll, zq_ft0, zq_fti, zq_ftr, zq_ftz, zq_ftf, zq_ftl, zq_pop0, zq_popS, zq_la0, zq_lai, zq_lar, zq_laz, zq_laf, zq_lal, zq_sh0, zq_sh1, zq_sh2, zq_sh3, zq_sh4, zq_f0, zq_f1, zq_f2, zq_f3, zq_u0, zq_u1, zq_u2, zq_ro0, zq_ro1, zq_ro2, zq_fv0, zq_fv2, zq_rfs, zq_rfn, zq_gD0, zq_gDS, zq_gDN, zq_lk0, zq_lkS, zq_tb0, zq_tbS, zq_o0, zq_o1, zq_o2, zq_o98, zq_o99, zq_o100, zq_o105, zq_o107, zq_o112, zq_o115, zq_o116, zq_c0, zq_c1, zq_v0, zq_v1, decide_eq_true_eq, List.toList_toArray, if_true, if_false, ite_self, and_true, true_and, and_false, false_and, true_or, or_true, or_false, false_or, not_true_eq_false, not_false_eq_true, Bool.false_eq_true, reduceCtorEq, ne_eq, ite_not, eq_self, Prod.mk.injEq, Nat.reduceEqDiff, Nat.reduceSub, Nat.reduceAdd, Nat.reduceLT, Nat.reduceLeDiff, zc_143_3, nI_1]
        exact ih2)
    rw [show nI 0 = 0 from rfl] at key
    rw [zb_143_1]
    rcases hl with rfl | ⟨x, rfl⟩
    all_goals simp only [List.append_nil, List.cons_append, List.nil_append]
    all_goals simp only [zi_wp_c, zi_wK_if, zi_wK_go, zi_wK_no, zi_wK_b, zi_wK_r, zi_wK_c, zi_cc_i, zi_cc_n, zi_B_if, zi_ifF, zx_nop, zx_iconst, zx_bipush, zx_sipush, zx_lconst, zx_ldc2_w, zx_aconst_null, zx_iload, zx_iload_n, zx_lload, zx_lload_n, zx_aload, zx_aload_n, zx_istore, zx_istore_n, zx_lstore, zx_lstore_n, zx_astore, zx_astore_n, zx_iinc, zx_iadd, zx_isub, zx_imul, zx_iand, zx_ior, zx_ishl, zx_ishr, zx_idiv, zx_irem, zx_ladd, zx_ldiv, zx_lrem, zx_lcmp, zx_i2l, zx_i2b, zx_i2s, zx_pop, zx_dup, zx_dup2, zx_getfield, zx_putfield, zx_getstatic, zx_iaload, zx_iastore, zx_laload, zx_lastore, zx_aaload, zx_arraylength, zx_goto, zx_ifCond, zx_if_icmp, zx_ifnull, zx_ifnonnull, zx_tableswitch, zx_lookupswitch, zx_ireturn, zx_lreturn, zx_areturn, zx_return_, zx_invokestatic, zx_invokevirtual, zi_ldi, zi_ldl, zi_lda, zi_sti, zi_stl, zi_sta, zi_inc, zi_b2, zi_d2, zi_l2, zi_dl2, zi_lc, zi_u1, zi_pp, zi_dup, zi_dup2, zi_gf, zi_pf, zi_ial, zi_ias, zi_lal, zi_las, zi_aal, zi_aln, zi_cp, zi_cmp, zi_if, zi_ic, zi_nul, zi_nnl, zi_sw, zi_ri, zi_rl, zi_ra, zi_rv, zi_iv, zi_ivr, zi_st1, zi_st2, zq_get0, zq_getS, zq_getN, zq_put0, zq_putS, zq_putN0, zq_putNS, zq_kl0, zq_klS, zq_Ln, zq_Li, zq_Lr, zq_Lf, zq_Lz, zq_Ll, zq_ft0, zq_fti, zq_ftr, zq_ftz, zq_ftf, zq_ftl, zq_pop0, zq_popS, zq_la0, zq_lai, zq_lar, zq_laz, zq_laf, zq_lal, zq_sh0, zq_sh1, zq_sh2, zq_sh3, zq_sh4, zq_f0, zq_f1, zq_f2, zq_f3, zq_u0, zq_u1, zq_u2, zq_ro0, zq_ro1, zq_ro2, zq_fv0, zq_fv2, zq_rfs, zq_rfn, zq_gD0, zq_gDS, zq_gDN, zq_lk0, zq_lkS, zq_tb0, zq_tbS, zq_o0, zq_o1, zq_o2, zq_o98, zq_o99, zq_o100, zq_o105, zq_o107, zq_o112, zq_o115, zq_o116, zq_c0, zq_c1, zq_v0, zq_v1, decide_eq_true_eq, List.toList_toArray, if_true, if_false, ite_self, and_true, true_and, and_false, false_and, true_or, or_true, or_false, false_or, not_true_eq_false, not_false_eq_true, Bool.false_eq_true, reduceCtorEq, ne_eq, ite_not, eq_self, Prod.mk.injEq, Nat.reduceEqDiff, Nat.reduceSub, Nat.reduceAdd, Nat.reduceLT, Nat.reduceLeDiff, zmt_111, zmt_112, zmt_113, zmt_114, zmt_115, zmt_116, zmt_117, zmt_118, zmt_119, zmt_120, zmt_121, zmt_122, zmt_123, zmt_124, zmt_125, zmt_126, zmt_127, zmt_128, zmt_129, zmt_130, zmt_131, zmt_132, zmt_133, zmt_134, zmt_135, zmt_136, zrc_111_2, zrc_111_3, zrc_111_4, zrc_111_6, zrc_111_7, zrc_111_8, zrc_111_9, zrc_111_10, zrc_111_14, zrc_111_15, zrc_111_16, zrc_111_17, zrc_111_18, zrc_111_19, zrc_111_20, zrc_111_21, zrc_111_22, zrc_111_24, zrc_111_25, zrc_111_26, zrc_111_27, zrc_111_28, zrc_111_29, zrc_111_31, zrc_111_32, zc_143_1, c1, e0, v0, zn9, nI_1, zna2, zna3, e1, v1, e2, v2, e3, v3, e4, v4, q2, q3, q4, f1, f2, f3, f4]
    all_goals exact key
theorem s_m_keep {I : Nat → Nat → Int32} (hK : ∀ I', (∀ a, a ≠ 111 → a ≠ 129 → I' a = I a) → (∀ t, I' 111 t = if t = 23 then I 111 5 else I 111 t) → (∀ r, r < 7 → zKr I I' r) → K none (zm I' J)) : zi_B sc 0 0 143 0 [some (.ref 111)] [] (zm I J) K := by
  have key := l_m_k1 (sc := sc) (J := J) (K := K) (I0 := zi_up I 111 23 (I 111 5)) 7 0 (zi_up I 111 23 (I 111 5)) [] (by omega) (Or.inl rfl) zAg.rf (fun r' h => absurd h (Nat.not_lt_zero _)) (fun I' a1 a2 => by
    refine hK I' (fun a h1 h2 => by rw [a1 a (by omega), zu_up_ne _ h1]) (fun t => by rw [a1 111 (by omega), zu_up, if_pos rfl]) (fun r hr => ?_)
    have h := a2 r hr
    unfold zKr at h
    rw [zu_up_ne _ (show 115 ≠ 111 by omega), zu_up_ne _ (show 116 ≠ 111 by omega), zu_up_ne _ (show 117 ≠ 111 by omega), zu_up_ne _ (show 118 ≠ 111 by omega), zu_up_ne _ (show 119 ≠ 111 by omega)] at h
    exact h)
  simp only [List.append_nil] at key
  rw [show nI 0 = 0 from rfl] at key
  rw [zb_143_0]
  simp only [zi_wp_c, zi_wK_if, zi_wK_go, zi_wK_no, zi_wK_b, zi_wK_r, zi_wK_c, zi_cc_i, zi_cc_n, zi_B_if, zi_ifF, zx_nop, zx_iconst, zx_bipush, zx_sipush, zx_lconst, zx_ldc2_w, zx_aconst_null, zx_iload, zx_iload_n, zx_lload, zx_lload_n, zx_aload, zx_aload_n, zx_istore, zx_istore_n, zx_lstore, zx_lstore_n, zx_astore, zx_astore_n, zx_iinc, zx_iadd, zx_isub, zx_imul, zx_iand, zx_ior, zx_ishl, zx_ishr, zx_idiv, zx_irem, zx_ladd, zx_ldiv, zx_lrem, zx_lcmp, zx_i2l, zx_i2b, zx_i2s, zx_pop, zx_dup, zx_dup2, zx_getfield, zx_putfield, zx_getstatic, zx_iaload, zx_iastore, zx_laload, zx_lastore, zx_aaload, zx_arraylength, zx_goto, zx_ifCond, zx_if_icmp, zx_ifnull, zx_ifnonnull, zx_tableswitch, zx_lookupswitch, zx_ireturn, zx_lreturn, zx_areturn, zx_return_, zx_invokestatic, zx_invokevirtual, zi_ldi, zi_ldl, zi_lda, zi_sti, zi_stl, zi_sta, zi_inc, zi_b2, zi_d2, zi_l2, zi_dl2, zi_lc, zi_u1, zi_pp, zi_dup, zi_dup2, zi_gf, zi_pf, zi_ial, zi_ias, zi_lal, zi_las, zi_aal, zi_aln, zi_cp, zi_cmp, zi_if, zi_ic, zi_nul, zi_nnl, zi_sw, zi_ri, zi_rl, zi_ra, zi_rv, zi_iv, zi_ivr, zi_st1, zi_st2, zq_get0, zq_getS, zq_getN, zq_put0, zq_putS, zq_putN0, zq_putNS, zq_kl0, zq_klS, zq_Ln, zq_Li, zq_Lr, zq_Lf, zq_Lz, zq_Ll, zq_ft0, zq_fti, zq_ftr, zq_ftz, zq_ftf, zq_ftl, zq_pop0, zq_popS, zq_la0, zq_lai, zq_lar, zq_laz, zq_laf, zq_lal, zq_sh0, zq_sh1, zq_sh2, zq_sh3, zq_sh4, zq_f0, zq_f1, zq_f2, zq_f3, zq_u0, zq_u1, zq_u2, zq_ro0, zq_ro1, zq_ro2, zq_fv0, zq_fv2, zq_rfs, zq_rfn, zq_gD0, zq_gDS, zq_gDN, zq_lk0, zq_lkS, zq_tb0, zq_tbS, zq_o0, zq_o1, zq_o2, zq_o98, zq_o99, zq_o100, zq_o105, zq_o107, zq_o112, zq_o115, zq_o116, zq_c0, zq_c1, zq_v0, zq_v1, decide_eq_true_eq, List.toList_toArray, if_true, if_false, ite_self, and_true, true_and, and_false, false_and, true_or, or_true, or_false, false_or, not_true_eq_false, not_false_eq_true, Bool.false_eq_true, reduceCtorEq, ne_eq, ite_not, eq_self, Prod.mk.injEq, Nat.reduceEqDiff, Nat.reduceSub, Nat.reduceAdd, Nat.reduceLT, Nat.reduceLeDiff, zmt_111, zmt_112, zmt_113, zmt_114, zmt_115, zmt_116, zmt_117, zmt_118, zmt_119, zmt_120, zmt_121, zmt_122, zmt_123, zmt_124, zmt_125, zmt_126, zmt_127, zmt_128, zmt_129, zmt_130, zmt_131, zmt_132, zmt_133, zmt_134, zmt_135, zmt_136, zrc_111_2, zrc_111_3, zrc_111_4, zrc_111_6, zrc_111_7, zrc_111_8, zrc_111_9, zrc_111_10, zrc_111_14, zrc_111_15, zrc_111_16, zrc_111_17, zrc_111_18, zrc_111_19, zrc_111_20, zrc_111_21, zrc_111_22, zrc_111_24, zrc_111_25, zrc_111_26, zrc_111_27, zrc_111_28, zrc_111_29, zrc_111_31, zrc_111_32, zc_143_0]
  exact key
theorem l_m_b2 {r : Nat} {I0 I1 : Nat → Nat → Int32} (hr : r < 7) (hk : ∀ q, q < 7 → zKr I0 I1 q) : ∀ d i (I : Nat → Nat → Int32), i + d = 5 → zAg 115 120 I1 I → (I 115 r = I0 115 r ∧ I 116 r = I0 116 r ∧ I 117 r = I0 117 r ∧ I 118 r = I0 118 r) → (∀ u, u < i → I 119 (5 * r + u) = I0 119 (5 * r + u)) → (∀ r', r' < r → zPb I0 I r') →
    (∀ I', zAg 115 120 I1 I' → (∀ r', r' < r + 1 → zPb I0 I' r') → zi_B sc 0 0 144 3 [some (.ref 111), some (.int (nI r)), some (.int (nI 5))] [] (zm I' J) K) →
    zi_B sc 0 0 144 2 [some (.ref 111), some (.int (nI r)), some (.int (nI i))] [] (zm I J) K := by
  intro d
  induction d with
  | zero =>
    intro i I hi ha h4 hu hb hK
    have : i = 5 := by omega
    subst this
    have c1 : (5 : Int32) ≤ nI 5 := by decide
    rw [zb_144_2]
    simp only [zi_wp_c, zi_wK_if, zi_wK_go, zi_wK_no, zi_wK_b, zi_wK_r, zi_wK_c, zi_cc_i, zi_cc_n, zi_B_if, zi_ifF, zx_nop, zx_iconst, zx_bipush, zx_sipush, zx_lconst, zx_ldc2_w, zx_aconst_null, zx_iload, zx_iload_n, zx_lload, zx_lload_n, zx_aload, zx_aload_n, zx_istore, zx_istore_n, zx_lstore, zx_lstore_n, zx_astore, zx_astore_n, zx_iinc, zx_iadd, zx_isub, zx_imul, zx_iand, zx_ior, zx_ishl, zx_ishr, zx_idiv, zx_irem, zx_ladd, zx_ldiv, zx_lrem, zx_lcmp, zx_i2l, zx_i2b, zx_i2s, zx_pop, zx_dup, zx_dup2, zx_getfield, zx_putfield, zx_getstatic, zx_iaload, zx_iastore, zx_laload, zx_lastore, zx_aaload, zx_arraylength, zx_goto, zx_ifCond, zx_if_icmp, zx_ifnull, zx_ifnonnull, zx_tableswitch, zx_lookupswitch, zx_ireturn, zx_lreturn, zx_areturn, zx_return_, zx_invokestatic, zx_invokevirtual, zi_ldi, zi_ldl, zi_lda, zi_sti, zi_stl, zi_sta, zi_inc, zi_b2, zi_d2, zi_l2, zi_dl2, zi_lc, zi_u1, zi_pp, zi_dup, zi_dup2, zi_gf, zi_pf, zi_ial, zi_ias, zi_lal, zi_las, zi_aal, zi_aln, zi_cp, zi_cmp, zi_if, zi_ic, zi_nul, zi_nnl, zi_sw, zi_ri, zi_rl, zi_ra, zi_rv, zi_iv, zi_ivr, zi_st1, zi_st2, zq_get0, zq_getS, zq_getN, zq_put0, zq_putS, zq_putN0, zq_putNS, zq_kl0, zq_klS, zq_Ln, zq_Li, zq_Lr, zq_Lf, zq_Lz, zq_Ll, zq_ft0, zq_fti, zq_ftr, zq_ftz, zq_ftf, zq_ftl, zq_pop0, zq_popS, zq_la0, zq_lai, zq_lar, zq_laz, zq_laf, zq_lal, zq_sh0, zq_sh1, zq_sh2, zq_sh3, zq_sh4, zq_f0, zq_f1, zq_f2, zq_f3, zq_u0, zq_u1, zq_u2, zq_ro0, zq_ro1, zq_ro2, zq_fv0, zq_fv2, zq_rfs, zq_rfn, zq_gD0, zq_gDS, zq_gDN, zq_lk0, zq_lkS, zq_tb0, zq_tbS, zq_o0, zq_o1, zq_o2, zq_o98, zq_o99, zq_o100, zq_o105, zq_o107, zq_o112, zq_o115, zq_o116, zq_c0, zq_c1, zq_v0, zq_v1, decide_eq_true_eq, List.toList_toArray, if_true, if_false, ite_self, and_true, true_and, and_false, false_and, true_or, or_true, or_false, false_or, not_true_eq_false, not_false_eq_true, Bool.false_eq_true, reduceCtorEq, ne_eq, ite_not, eq_self, Prod.mk.injEq, Nat.reduceEqDiff, Nat.reduceSub, Nat.reduceAdd, Nat.reduceLT, Nat.reduceLeDiff, zc_144_2, c1]
    refine hK I ha (fun r' hr' => ?_)
    by_cases e : r' = r
    · subst e; exact ⟨h4, hu⟩
    · exact hb r' (by omega)
  | succ d ih =>
    intro i I hi ha h4 hu hb hK
    have c1 : ¬ (5 : Int32) ≤ nI i := by (simp only [zt_eq, Int32.lt_iff_toInt_lt, Int32.le_iff_toInt_le, zt_add, zt_sub, zt_neg, zt_nI, zl_0, zl_1, zl_2, zl_3, zl_4, zl_5, zl_6, zl_7, zl_8, zl_9, zl_10, zl_16, zl_20, zl_30, zl_60, zl_1080, zl_m1, zl_m2, zl_m9]; omega)
    have e1 : (nI (9 * r + 4 + i)).toNatClampNeg = 9 * r + 4 + i := nI_clamp (by omega)
    have v1 : zi_vin (nI (9 * r + 4 + i)) 63 = true := zv_nI (by omega) (by omega)
    have e2 : (nI (5 * r + i)).toNatClampNeg = 5 * r + i := nI_clamp (by omega)
    have v2 : zi_vin (nI (5 * r + i)) 35 = true := zv_nI (by omega) (by omega)
    have f1 : I 129 (9 * r + 4 + i) = I0 119 (5 * r + i) := by rw [ha 129 (by omega)]; exact (hk r hr).2 i (by omega)
    rw [zb_144_2]
    simp only [zi_wp_c, zi_wK_if, zi_wK_go, zi_wK_no, zi_wK_b, zi_wK_r, zi_wK_c, zi_cc_i, zi_cc_n, zi_B_if, zi_ifF, zx_nop, zx_iconst, zx_bipush, zx_sipush, zx_lconst, zx_ldc2_w, zx_aconst_null, zx_iload, zx_iload_n, zx_lload, zx_lload_n, zx_aload, zx_aload_n, zx_istore, zx_istore_n, zx_lstore, zx_lstore_n, zx_astore, zx_astore_n, zx_iinc, zx_iadd, zx_isub, zx_imul, zx_iand, zx_ior, zx_ishl, zx_ishr, zx_idiv, zx_irem, zx_ladd, zx_ldiv, zx_lrem, zx_lcmp, zx_i2l, zx_i2b, zx_i2s, zx_pop, zx_dup, zx_dup2, zx_getfield, zx_putfield, zx_getstatic, zx_iaload, zx_iastore, zx_laload, zx_lastore, zx_aaload, zx_arraylength, zx_goto, zx_ifCond, zx_if_icmp, zx_ifnull, zx_ifnonnull, zx_tableswitch, zx_lookupswitch, zx_ireturn, zx_lreturn, zx_areturn, zx_return_, zx_invokestatic, zx_invokevirtual, zi_ldi, zi_ldl, zi_lda, zi_sti, zi_stl, zi_sta, zi_inc, zi_b2, zi_d2, zi_l2, zi_dl2, zi_lc, zi_u1, zi_pp, zi_dup, zi_dup2, zi_gf, zi_pf, zi_ial, zi_ias, zi_lal, zi_las, zi_aal, zi_aln, zi_cp, zi_cmp, zi_if, zi_ic, zi_nul, zi_nnl, zi_sw, zi_ri, zi_rl, zi_ra, zi_rv, zi_iv, zi_ivr, zi_st1, zi_st2, zq_get0, zq_getS, zq_getN, zq_put0, zq_putS, zq_putN0, zq_putNS, zq_kl0, zq_klS, zq_Ln, zq_Li, zq_Lr, zq_Lf, zq_Lz, zq_Ll, zq_ft0, zq_fti, zq_ftr, zq_ftz, zq_ftf, zq_ftl, zq_pop0, zq_popS, zq_la0, zq_lai, zq_lar, zq_laz, zq_laf, zq_lal, zq_sh0, zq_sh1, zq_sh2, zq_sh3, zq_sh4, zq_f0, zq_f1, zq_f2, zq_f3, zq_u0, zq_u1, zq_u2, zq_ro0, zq_ro1, zq_ro2, zq_fv0, zq_fv2, zq_rfs, zq_rfn, zq_gD0, zq_gDS, zq_gDN, zq_lk0, zq_lkS, zq_tb0, zq_tbS, zq_o0, zq_o1, zq_o2, zq_o98, zq_o99, zq_o100, zq_o105, zq_o107, zq_o112, zq_o115, zq_o116, zq_c0, zq_c1, zq_v0, zq_v1, decide_eq_true_eq, List.toList_toArray, if_true, if_false, ite_self, and_true, true_and, and_false, false_and, true_or, or_true, or_false, false_or, not_true_eq_false, not_false_eq_true, Bool.false_eq_true, reduceCtorEq, ne_eq, ite_not, eq_self, Prod.mk.injEq, Nat.reduceEqDiff, Nat.reduceSub, Nat.reduceAdd, Nat.reduceLT, Nat.reduceLeDiff, zmt_111, zmt_112, zmt_113, zmt_114, zmt_115, zmt_116, zmt_117, zmt_118, zmt_119, zmt_120, zmt_121, zmt_122, zmt_123, zmt_124, zmt_125, zmt_126, zmt_127, zmt_128, zmt_129, zmt_130, zmt_131, zmt_132, zmt_133, zmt_134, zmt_135, zmt_136, zrc_111_2, zrc_111_3, zrc_111_4, zrc_111_6, zrc_111_7, zrc_111_8, zrc_111_9, zrc_111_10, zrc_111_14, zrc_111_15, zrc_111_16, zrc_111_17, zrc_111_18, zrc_111_19, zrc_111_20, zrc_111_21, zrc_111_22, zrc_111_24, zrc_111_25, zrc_111_26, zrc_111_27, zrc_111_28, zrc_111_29, zrc_111_31, zrc_111_32, zc_144_2, c1, zn_5, zn9, zna4, nI_add, e1, v1, e2, v2, f1, nI_1]
    refine ih (i + 1) _ (by omega) (ha.up (by omega) (by omega)) ?_ (fun u hu2 => ?_) (fun r' hr' => ?_) hK
    · rw [zu_up_ne _ (by omega), zu_up_ne _ (by omega), zu_up_ne _ (by omega), zu_up_ne _ (by omega)]; exact h4
    · rw [zu_up, if_pos rfl]
      by_cases e : u = i
      · rw [if_pos (by omega), e]
      · rw [if_neg (by omega)]; exact hu u (by omega)
    · obtain ⟨b1, b5⟩ := hb r' hr'
      refine ⟨?_, fun u hu2 => ?_⟩
      · rw [zu_up_ne _ (by omega), zu_up_ne _ (by omega), zu_up_ne _ (by omega), zu_up_ne _ (by omega)]; exact b1
      · rw [zu_up, if_pos rfl, if_neg (by omega)]; exact b5 u hu2
theorem l_m_b1 {I0 I1 : Nat → Nat → Int32} (hk : ∀ q, q < 7 → zKr I0 I1 q) : ∀ d r (I : Nat → Nat → Int32) (tl : zL1), r + d = 7 → (tl = [] ∨ ∃ x : Int32, tl = [some (.int x)]) → zAg 115 120 I1 I → (∀ r', r' < r → zPb I0 I r') →
    (∀ I', zAg 115 120 I1 I' → (∀ r', r' < 7 → zPb I0 I' r') → K none (zm I' J)) →
    zi_B sc 0 0 144 1 ([some (.ref 111), some (.int (nI r))] ++ tl) [] (zm I J) K := by
  intro d
  induction d with
  | zero =>
    intro r I tl hi hl ha hb hK
    have : r = 7 := by omega
    subst this
    have c1 : (7 : Int32) ≤ nI 7 := by decide
    rw [zb_144_1]
    rcases hl with rfl | ⟨x, rfl⟩
    all_goals simp only [List.append_nil, List.cons_append, List.nil_append]
    all_goals simp only [zi_wp_c, zi_wK_if, zi_wK_go, zi_wK_no, zi_wK_b, zi_wK_r, zi_wK_c, zi_cc_i, zi_cc_n, zi_B_if, zi_ifF, zx_nop, zx_iconst, zx_bipush, zx_sipush, zx_lconst, zx_ldc2_w, zx_aconst_null, zx_iload, zx_iload_n, zx_lload, zx_lload_n, zx_aload, zx_aload_n, zx_istore, zx_istore_n, zx_lstore, zx_lstore_n, zx_astore, zx_astore_n, zx_iinc, zx_iadd, zx_isub, zx_imul, zx_iand, zx_ior, zx_ishl, zx_ishr, zx_idiv, zx_irem, zx_ladd, zx_ldiv, zx_lrem, zx_lcmp, zx_i2l, zx_i2b, zx_i2s, zx_pop, zx_dup, zx_dup2, zx_getfield, zx_putfield, zx_getstatic, zx_iaload, zx_iastore, zx_laload, zx_lastore, zx_aaload, zx_arraylength, zx_goto, zx_ifCond, zx_if_icmp, zx_ifnull, zx_ifnonnull, zx_tableswitch, zx_lookupswitch, zx_ireturn, zx_lreturn, zx_areturn, zx_return_, zx_invokestatic, zx_invokevirtual, zi_ldi, zi_ldl, zi_lda, zi_sti, zi_stl, zi_sta, zi_inc, zi_b2, zi_d2, zi_l2, zi_dl2, zi_lc, zi_u1, zi_pp, zi_dup, zi_dup2, zi_gf, zi_pf, zi_ial, zi_ias, zi_lal, zi_las, zi_aal, zi_aln, zi_cp, zi_cmp, zi_if, zi_ic, zi_nul, zi_nnl, zi_sw, zi_ri, zi_rl, zi_ra, zi_rv, zi_iv, zi_ivr, zi_st1, zi_st2, zq_get0, zq_getS, zq_getN, zq_put0, zq_putS, zq_putN0, zq_putNS, zq_kl0, zq_klS, zq_Ln, zq_Li, zq_Lr, zq_Lf, zq_Lz, zq_Ll, zq_ft0, zq_fti, zq_ftr, zq_ftz, zq_ftf, zq_ftl, zq_pop0, zq_popS, zq_la0, zq_lai, zq_lar, zq_laz, zq_laf, zq_lal, zq_sh0, zq_sh1, zq_sh2, zq_sh3, zq_sh4, zq_f0, zq_f1, zq_f2, zq_f3, zq_u0, zq_u1, zq_u2, zq_ro0, zq_ro1, zq_ro2, zq_fv0, zq_fv2, zq_rfs, zq_rfn, zq_gD0, zq_gDS, zq_gDN, zq_lk0, zq_lkS, zq_tb0, zq_tbS, zq_o0, zq_o1, zq_o2, zq_o98, zq_o99, zq_o100, zq_o105, zq_o107, zq_o112, zq_o115, zq_o116, zq_c0, zq_c1, zq_v0, zq_v1, decide_eq_true_eq, List.toList_toArray, if_true, if_false, ite_self, and_true, true_and, and_false, false_and, true_or, or_true, or_false, false_or, not_true_eq_false, not_false_eq_true, Bool.false_eq_true, reduceCtorEq, ne_eq, ite_not, eq_self, Prod.mk.injEq, Nat.reduceEqDiff, Nat.reduceSub, Nat.reduceAdd, Nat.reduceLT, Nat.reduceLeDiff, zb_144_4, zc_144_4, zc_144_1, c1]
    all_goals exact hK I ha hb
  | succ d ih =>
    intro r I tl hi hl ha hb hK
    have c1 : ¬ (7 : Int32) ≤ nI r := by (simp only [zt_eq, Int32.lt_iff_toInt_lt, Int32.le_iff_toInt_le, zt_add, zt_sub, zt_neg, zt_nI, zl_0, zl_1, zl_2, zl_3, zl_4, zl_5, zl_6, zl_7, zl_8, zl_9, zl_10, zl_16, zl_20, zl_30, zl_60, zl_1080, zl_m1, zl_m2, zl_m9]; omega)
    have e0 : (nI r).toNatClampNeg = r := nI_clamp (by omega)
    have v0 : zi_vin (nI r) 7 = true := zv_nI (by omega) (by omega)
    have e1 : (nI (9 * r)).toNatClampNeg = 9 * r := nI_clamp (by omega)
    have v1 : zi_vin (nI (9 * r)) 63 = true := zv_nI (by omega) (by omega)
    have e2 : (nI (9 * r + 1)).toNatClampNeg = 9 * r + 1 := nI_clamp (by omega)
    have v2 : zi_vin (nI (9 * r + 1)) 63 = true := zv_nI (by omega) (by omega)
    have e3 : (nI (9 * r + 2)).toNatClampNeg = 9 * r + 2 := nI_clamp (by omega)
    have v3 : zi_vin (nI (9 * r + 2)) 63 = true := zv_nI (by omega) (by omega)
    have e4 : (nI (9 * r + 3)).toNatClampNeg = 9 * r + 3 := nI_clamp (by omega)
    have v4 : zi_vin (nI (9 * r + 3)) 63 = true := zv_nI (by omega) (by omega)
    obtain ⟨⟨k1, k2, k3, k4⟩, -⟩ := hk r (by omega)
    have f0 : I 129 = I1 129 := ha 129 (by omega)
    have q2 : ∀ (I2 : Nat → Nat → Int32) k (v : Int32), zi_up I2 115 k v 129 = I2 129 := fun I2 k v => zu_up_ne _ (by omega)
    have q3 : ∀ (I2 : Nat → Nat → Int32) k (v : Int32), zi_up I2 116 k v 129 = I2 129 := fun I2 k v => zu_up_ne _ (by omega)
    have q4 : ∀ (I2 : Nat → Nat → Int32) k (v : Int32), zi_up I2 117 k v 129 = I2 129 := fun I2 k v => zu_up_ne _ (by omega)
    have key := l_m_b2 (sc := sc) (J := J) (K := K) (I0 := I0) (I1 := I1) (show r < 7 by omega) hk 5 0 (zi_up (zi_up (zi_up (zi_up I 115 r (I0 115 r)) 116 r (I0 116 r)) 117 r (I0 117 r)) 118 r (I0 118 r)) (by omega) ((((ha.up (by omega) (by omega)).up (by omega) (by omega)).up (by omega) (by omega)).up (by omega) (by omega))
      ⟨by simp only [zu_up, if_true, Nat.reduceEqDiff, if_false], by simp only [zu_up, if_true, Nat.reduceEqDiff, if_false], by simp only [zu_up, if_true, Nat.reduceEqDiff, if_false], by simp only [zu_up, if_true]⟩ (fun u hu => absurd hu (Nat.not_lt_zero _))
      (fun r' hr' => by
        obtain ⟨⟨b1, b2, b3, b4⟩, b5⟩ := hb r' hr'
        have nr : ¬ r' = r := by omega
        refine ⟨⟨?_, ?_, ?_, ?_⟩, fun u hu2 => ?_⟩
        · simp only [zu_up, if_true, Nat.reduceEqDiff, if_false, if_neg nr]; exact b1
        · simp only [zu_up, if_true, Nat.reduceEqDiff, if_false, if_neg nr]; exact b2
        · simp only [zu_up, if_true, Nat.reduceEqDiff, if_false, if_neg nr]; exact b3
        · simp only [zu_up, if_true, Nat.reduceEqDiff, if_false, if_neg nr]; exact b4
        · simp only [zu_up, Nat.reduceEqDiff, if_false]; exact b5 u hu2)
      (fun I' a1 a2 => by
        have ih2 := ih (r + 1) I' [some (.int (nI 5))] (by omega) (Or.inr ⟨_, rfl⟩) a1 a2 hK
        simp only [List.cons_append, List.nil_append] at ih2
        rw [zb_144_3]
        simp only [zi_wp_c, zi_wK_if, zi_wK_go, zi_wK_no, zi_wK_b, zi_wK_r, zi_wK_c, zi_cc_i, zi_cc_n, zi_B_if, zi_ifF, zx_nop, zx_iconst, zx_bipush, zx_sipush, zx_lconst, zx_ldc2_w, zx_aconst_null, zx_iload, zx_iload_n, zx_lload, zx_lload_n, zx_aload, zx_aload_n, zx_istore, zx_istore_n, zx_lstore, zx_lstore_n, zx_astore, zx_astore_n, zx_iinc, zx_iadd, zx_isub, zx_imul, zx_iand, zx_ior, zx_ishl, zx_ishr, zx_idiv, zx_irem, zx_ladd, zx_ldiv, zx_lrem, zx_lcmp, zx_i2l, zx_i2b, zx_i2s, zx_pop, zx_dup, zx_dup2, zx_getfield, zx_putfield, zx_getstatic, zx_iaload, zx_iastore, zx_laload, zx_lastore, zx_aaload, zx_arraylength, zx_goto, zx_ifCond, zx_if_icmp, zx_ifnull, zx_ifnonnull, zx_tableswitch, zx_lookupswitch, zx_ireturn, zx_lreturn, zx_areturn, zx_return_, zx_invokestatic, zx_invokevirtual, zi_ldi, zi_ldl, zi_lda, zi_sti, zi_stl, zi_sta, zi_inc, zi_b2, zi_d2, zi_l2, zi_dl2, zi_lc, zi_u1, zi_pp, zi_dup, zi_dup2, zi_gf, zi_pf, zi_ial, zi_ias, zi_lal, zi_las, zi_aal, zi_aln, zi_cp, zi_cmp, zi_if, zi_ic, zi_nul, zi_nnl, zi_sw, zi_ri, zi_rl, zi_ra, zi_rv, zi_iv, zi_ivr, zi_st1, zi_st2, zq_get0, zq_getS, zq_getN, zq_put0, zq_putS, zq_putN0, zq_putNS, zq_kl0, zq_klS, zq_Ln, zq_Li, zq_Lr, zq_Lf, zq_Lz, zq_Ll, zq_ft0, zq_fti, zq_ftr, zq_ftz, zq_ftf, zq_ftl, zq_pop0, zq_popS, zq_la0, zq_lai, zq_lar, zq_laz, zq_laf, zq_lal, zq_sh0, zq_sh1, zq_sh2, zq_sh3, zq_sh4, zq_f0, zq_f1, zq_f2, zq_f3, zq_u0, zq_u1, zq_u2, zq_ro0, zq_ro1, zq_ro2, zq_fv0, zq_fv2, zq_rfs, zq_rfn, zq_gD0, zq_gDS, zq_gDN, zq_lk0, zq_lkS, zq_tb0, zq_tbS, zq_o0, zq_o1, zq_o2, zq_o98, zq_o99, zq_o100, zq_o105, zq_o107, zq_o112, zq_o115, zq_o116, zq_c0, zq_c1, zq_v0, zq_v1, decide_eq_true_eq, List.toList_toArray, if_true, if_false, ite_self, and_true, true_and, and_false, false_and, true_or, or_true, or_false, false_or, not_true_eq_false, not_false_eq_true, Bool.false_eq_true, reduceCtorEq, ne_eq, ite_not, eq_self, Prod.mk.injEq, Nat.reduceEqDiff, Nat.reduceSub, Nat.reduceAdd, Nat.reduceLT, Nat.reduceLeDiff, zc_144_3, nI_1]
        exact ih2)
    rw [show nI 0 = 0 from rfl] at key
    rw [zb_144_1]
    rcases hl with rfl | ⟨x, rfl⟩
    all_goals simp only [List.append_nil, List.cons_append, List.nil_append]
    all_goals simp only [zi_wp_c, zi_wK_if, zi_wK_go, zi_wK_no, zi_wK_b, zi_wK_r, zi_wK_c, zi_cc_i, zi_cc_n, zi_B_if, zi_ifF, zx_nop, zx_iconst, zx_bipush, zx_sipush, zx_lconst, zx_ldc2_w, zx_aconst_null, zx_iload, zx_iload_n, zx_lload, zx_lload_n, zx_aload, zx_aload_n, zx_istore, zx_istore_n, zx_lstore, zx_lstore_n, zx_astore, zx_astore_n, zx_iinc, zx_iadd, zx_isub, zx_imul, zx_iand, zx_ior, zx_ishl, zx_ishr, zx_idiv, zx_irem, zx_ladd, zx_ldiv, zx_lrem, zx_lcmp, zx_i2l, zx_i2b, zx_i2s, zx_pop, zx_dup, zx_dup2, zx_getfield, zx_putfield, zx_getstatic, zx_iaload, zx_iastore, zx_laload, zx_lastore, zx_aaload, zx_arraylength, zx_goto, zx_ifCond, zx_if_icmp, zx_ifnull, zx_ifnonnull, zx_tableswitch, zx_lookupswitch, zx_ireturn, zx_lreturn, zx_areturn, zx_return_, zx_invokestatic, zx_invokevirtual, zi_ldi, zi_ldl, zi_lda, zi_sti, zi_stl, zi_sta, zi_inc, zi_b2, zi_d2, zi_l2, zi_dl2, zi_lc, zi_u1, zi_pp, zi_dup, zi_dup2, zi_gf, zi_pf, zi_ial, zi_ias, zi_lal, zi_las, zi_aal, zi_aln, zi_cp, zi_cmp, zi_if, zi_ic, zi_nul, zi_nnl, zi_sw, zi_ri, zi_rl, zi_ra, zi_rv, zi_iv, zi_ivr, zi_st1, zi_st2, zq_get0, zq_getS, zq_getN, zq_put0, zq_putS, zq_putN0, zq_putNS, zq_kl0, zq_klS, zq_Ln, zq_Li, zq_Lr, zq_Lf, zq_Lz, zq_Ll, zq_ft0, zq_fti, zq_ftr, zq_ftz, zq_ftf, zq_ftl, zq_pop0, zq_popS, zq_la0, zq_lai, zq_lar, zq_laz, zq_laf, zq_lal, zq_sh0, zq_sh1, zq_sh2, zq_sh3, zq_sh4, zq_f0, zq_f1, zq_f2, zq_f3, zq_u0, zq_u1, zq_u2, zq_ro0, zq_ro1, zq_ro2, zq_fv0, zq_fv2, zq_rfs, zq_rfn, zq_gD0, zq_gDS, zq_gDN, zq_lk0, zq_lkS, zq_tb0, zq_tbS, zq_o0, zq_o1, zq_o2, zq_o98, zq_o99, zq_o100, zq_o105, zq_o107, zq_o112, zq_o115, zq_o116, zq_c0, zq_c1, zq_v0, zq_v1, decide_eq_true_eq, List.toList_toArray, if_true, if_false, ite_self, and_true, true_and, and_false, false_and, true_or, or_true, or_false, false_or, not_true_eq_false, not_false_eq_true, Bool.false_eq_true, reduceCtorEq, ne_eq, ite_not, eq_self, Prod.mk.injEq, Nat.reduceEqDiff, Nat.reduceSub, Nat.reduceAdd, Nat.reduceLT, Nat.reduceLeDiff, zmt_111, zmt_112, zmt_113, zmt_114, zmt_115, zmt_116, zmt_117, zmt_118, zmt_119, zmt_120, zmt_121, zmt_122, zmt_123, zmt_124, zmt_125, zmt_126, zmt_127, zmt_128, zmt_129, zmt_130, zmt_131, zmt_132, zmt_133, zmt_134, zmt_135, zmt_136, zrc_111_2, zrc_111_3, zrc_111_4, zrc_111_6, zrc_111_7, zrc_111_8, zrc_111_9, zrc_111_10, zrc_111_14, zrc_111_15, zrc_111_16, zrc_111_17, zrc_111_18, zrc_111_19, zrc_111_20, zrc_111_21, zrc_111_22, zrc_111_24, zrc_111_25, zrc_111_26, zrc_111_27, zrc_111_28, zrc_111_29, zrc_111_31, zrc_111_32, zc_144_1, c1, e0, v0, zn9, nI_1, zna2, zna3, e1, v1, e2, v2, e3, v3, e4, v4, q2, q3, q4, f0, k1, k2, k3, k4]
    all_goals exact key
theorem s_m_putBack {I0 I : Nat → Nat → Int32} (hk : ∀ r, r < 7 → zKr I0 I r) (h23 : I 111 23 = I0 111 5) (hK : ∀ I', (∀ a, a < 115 ∨ 120 ≤ a → a ≠ 111 → I' a = I a) → (∀ t, I' 111 t = if t = 5 then I0 111 5 else I 111 t) → (∀ r, r < 7 → zPb I0 I' r) → K none (zm I' J)) : zi_B sc 0 0 144 0 [some (.ref 111)] [] (zm I J) K := by
  have hk2 : ∀ r, r < 7 → zKr I0 (zi_up I 111 5 (I0 111 5)) r := fun r hr => by
    have h := hk r hr
    unfold zKr at h ⊢
    rw [zu_up_ne _ (show 129 ≠ 111 by omega)]
    exact h
  have key := l_m_b1 (sc := sc) (J := J) (K := K) hk2 7 0 (zi_up I 111 5 (I0 111 5)) [] (by omega) (Or.inl rfl) zAg.rf (fun r' h => absurd h (Nat.not_lt_zero _)) (fun I' a1 a2 => hK I' (fun a h1 h2 => by rw [a1 a (by omega), zu_up_ne _ h2]) (fun t => by rw [a1 111 (by omega), zu_up, if_pos rfl]) a2)
  simp only [List.append_nil] at key
  rw [show nI 0 = 0 from rfl] at key
  rw [zb_144_0]
  simp only [zi_wp_c, zi_wK_if, zi_wK_go, zi_wK_no, zi_wK_b, zi_wK_r, zi_wK_c, zi_cc_i, zi_cc_n, zi_B_if, zi_ifF, zx_nop, zx_iconst, zx_bipush, zx_sipush, zx_lconst, zx_ldc2_w, zx_aconst_null, zx_iload, zx_iload_n, zx_lload, zx_lload_n, zx_aload, zx_aload_n, zx_istore, zx_istore_n, zx_lstore, zx_lstore_n, zx_astore, zx_astore_n, zx_iinc, zx_iadd, zx_isub, zx_imul, zx_iand, zx_ior, zx_ishl, zx_ishr, zx_idiv, zx_irem, zx_ladd, zx_ldiv, zx_lrem, zx_lcmp, zx_i2l, zx_i2b, zx_i2s, zx_pop, zx_dup, zx_dup2, zx_getfield, zx_putfield, zx_getstatic, zx_iaload, zx_iastore, zx_laload, zx_lastore, zx_aaload, zx_arraylength, zx_goto, zx_ifCond, zx_if_icmp, zx_ifnull, zx_ifnonnull, zx_tableswitch, zx_lookupswitch, zx_ireturn, zx_lreturn, zx_areturn, zx_return_, zx_invokestatic, zx_invokevirtual, zi_ldi, zi_ldl, zi_lda, zi_sti, zi_stl, zi_sta, zi_inc, zi_b2, zi_d2, zi_l2, zi_dl2, zi_lc, zi_u1, zi_pp, zi_dup, zi_dup2, zi_gf, zi_pf, zi_ial, zi_ias, zi_lal, zi_las, zi_aal, zi_aln, zi_cp, zi_cmp, zi_if, zi_ic, zi_nul, zi_nnl, zi_sw, zi_ri, zi_rl, zi_ra, zi_rv, zi_iv, zi_ivr, zi_st1, zi_st2, zq_get0, zq_getS, zq_getN, zq_put0, zq_putS, zq_putN0, zq_putNS, zq_kl0, zq_klS, zq_Ln, zq_Li, zq_Lr, zq_Lf, zq_Lz, zq_Ll, zq_ft0, zq_fti, zq_ftr, zq_ftz, zq_ftf, zq_ftl, zq_pop0, zq_popS, zq_la0, zq_lai, zq_lar, zq_laz, zq_laf, zq_lal, zq_sh0, zq_sh1, zq_sh2, zq_sh3, zq_sh4, zq_f0, zq_f1, zq_f2, zq_f3, zq_u0, zq_u1, zq_u2, zq_ro0, zq_ro1, zq_ro2, zq_fv0, zq_fv2, zq_rfs, zq_rfn, zq_gD0, zq_gDS, zq_gDN, zq_lk0, zq_lkS, zq_tb0, zq_tbS, zq_o0, zq_o1, zq_o2, zq_o98, zq_o99, zq_o100, zq_o105, zq_o107, zq_o112, zq_o115, zq_o116, zq_c0, zq_c1, zq_v0, zq_v1, decide_eq_true_eq, List.toList_toArray, if_true, if_false, ite_self, and_true, true_and, and_false, false_and, true_or, or_true, or_false, false_or, not_true_eq_false, not_false_eq_true, Bool.false_eq_true, reduceCtorEq, ne_eq, ite_not, eq_self, Prod.mk.injEq, Nat.reduceEqDiff, Nat.reduceSub, Nat.reduceAdd, Nat.reduceLT, Nat.reduceLeDiff, zmt_111, zmt_112, zmt_113, zmt_114, zmt_115, zmt_116, zmt_117, zmt_118, zmt_119, zmt_120, zmt_121, zmt_122, zmt_123, zmt_124, zmt_125, zmt_126, zmt_127, zmt_128, zmt_129, zmt_130, zmt_131, zmt_132, zmt_133, zmt_134, zmt_135, zmt_136, zrc_111_2, zrc_111_3, zrc_111_4, zrc_111_6, zrc_111_7, zrc_111_8, zrc_111_9, zrc_111_10, zrc_111_14, zrc_111_15, zrc_111_16, zrc_111_17, zrc_111_18, zrc_111_19, zrc_111_20, zrc_111_21, zrc_111_22, zrc_111_24, zrc_111_25, zrc_111_26, zrc_111_27, zrc_111_28, zrc_111_29, zrc_111_31, zrc_111_32, zc_144_0, h23]
  exact key
end ZKE
theorem zY.back {S : zS} {I0 I' : Nat → Nat → Int32} (h : zY S I0) (hO : zOk S) (h1 : ∀ a, a = 112 ∨ a = 113 ∨ a = 114 ∨ a = 135 ∨ a = 136 → I' a = I0 a) (h2 : ∀ t, t = 0 ∨ t = 1 ∨ t = 5 ∨ t = 30 → I' 111 t = I0 111 t) (h3 : ∀ r, r < 7 → zPb I0 I' r) : zY S I' := by
  obtain ⟨⟨a1, a2⟩, b, ⟨c1, c2, c3⟩, d1, d2⟩ := h
  obtain ⟨-, ⟨-, o6, oR, -⟩, -⟩ := hO
  refine ⟨⟨by rw [h2 0 (by omega)]; exact a1, by rw [h2 1 (by omega)]; exact a2⟩, ?_, ⟨by rw [h2 5 (by omega)]; exact c1, fun r hr => ?_, fun r hr => ?_⟩, by rw [h2 30 (by omega)]; exact d1, ?_⟩
  · unfold zYs
    rw [h1 112 (by omega), h1 113 (by omega), h1 114 (by omega)]
    exact b
  · obtain ⟨⟨e1, e2, e3, e4⟩, e5⟩ := h3 (r + 1) (by omega)
    obtain ⟨f1, f2, f3, f4⟩ := c2 r hr
    have := (oR r hr).2.2.1.2
    exact ⟨e2.trans f1, e3.trans f2, e4.trans f3, fun i hi => (e5 i (by omega)).trans (f4 i hi)⟩
  · rw [(h3 r (by omega)).1.1]
    exact c3 r hr
  · rw [h1 135 (by omega), h1 136 (by omega)]
    exact d2
