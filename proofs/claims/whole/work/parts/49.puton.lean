/-! puton on x's side: the ROUND that is put on -/
def zNx (kd sp c i : Nat) (f : Nat → Int32) : zRt := (kd, sp, c, fun u => (f (i + u)).toNatClampNeg)
theorem zSgs_nI {f : Nat → Int32} {i c t : Nat} (h : zSgs f i c) (ht : t < c) : f (i + t) = nI (f (i + t)).toNatClampNeg ∧ (f (i + t)).toNatClampNeg < 5 := by
  obtain ⟨h1, h2⟩ := h t ht
  have := zt_ran (f (i + t))
  simp only [zt_eq, Int32.lt_iff_toInt_lt, Int32.le_iff_toInt_le, zt_add, zt_sub, zt_neg, zt_nI, zl_0, zl_1, zl_2, zl_3, zl_4, zl_5, zl_6, zl_7, zl_8, zl_9, zl_10, zl_16, zl_20, zl_30, zl_60, zl_1080, zl_m1, zl_m2, zl_m9] at h1 h2
  have e : (f (i + t)).toNatClampNeg = (f (i + t)).toInt.toNat := rfl
  exact ⟨by rw [e]; exact zt_of (by omega), by rw [e]; omega⟩
section ZP2
variable {sc : Nat × (Nat → Int32)} {J : Nat → Nat → Int64} {K : Option Value → zi_M → Prop} {S : zS}
theorem l_x_put {k s i c kd sp n : Nat} {f : Nat → Int32} {a4 a8 : Int32} {I0 : Nat → Nat → Int32} (hn : n < 6) (hk : k < 4) (hs : I0 (103 + 2 * k) 2 = nI s) (hs60 : s ≤ 60) (hic : i + c ≤ s) (hc5 : c ≤ 5) (hkd : kd < 3) (hsp : 1 ≤ sp ∧ sp ≤ 9) (hf : ∀ j, j < 60 → I0 (104 + 2 * k) j = f j) (hg : zSgs f i c) : ∀ d t (I : Nat → Nat → Int32), t + d = c → zAg (4 + 2 * n) (6 + 2 * n) I0 I → I (4 + 2 * n) 0 = nI kd → I (4 + 2 * n) 1 = nI sp → I (4 + 2 * n) 2 = nI t → (∀ u, u < t → I (5 + 2 * n) u = f (i + u)) →
    (∀ I', zAg (4 + 2 * n) (6 + 2 * n) I0 I' → zRv I' (4 + 2 * n) (zNx kd sp c i f) → zi_B sc 0 0 65 11 [some (.ref 0), some (.int (nI kd)), some (.int (nI sp)), some (.int (nI k)), some (.int a4), some (.int (nI i)), some (.int (nI c)), some (.ref (103 + 2 * k)), some (.int a8), some (.ref (4 + 2 * n)), some (.int (nI c))] [] (zm I' J) K) →
    zi_B sc 0 0 65 10 [some (.ref 0), some (.int (nI kd)), some (.int (nI sp)), some (.int (nI k)), some (.int a4), some (.int (nI i)), some (.int (nI c)), some (.ref (103 + 2 * k)), some (.int a8), some (.ref (4 + 2 * n)), some (.int (nI t))] [] (zm I J) K := by
  obtain ⟨hq, -⟩ := zIsS_k k hk
  have hq1 := hq.1
  have hR := (zIsP_2.2.2.2 n hn).2
  rw [show 2 + 2 + 2 * n = 4 + 2 * n by omega] at hR
  have hR1 := hR.1
  intro d
  induction d with
  | zero =>
    intro t I ht ha h0 h1 h2 hu hK
    have : t = c := by omega
    subst this
    have c1 : nI t ≤ nI t := by (simp only [zt_eq, Int32.lt_iff_toInt_lt, Int32.le_iff_toInt_le, zt_add, zt_sub, zt_neg, zt_nI, zl_0, zl_1, zl_2, zl_3, zl_4, zl_5, zl_6, zl_7, zl_8, zl_9, zl_10, zl_16, zl_20, zl_30, zl_60, zl_1080, zl_m1, zl_m2, zl_m9]; omega)
    rw [zb_65_10]
    simp only [zi_wp_c, zi_wK_if, zi_wK_go, zi_wK_no, zi_wK_b, zi_wK_r, zi_wK_c, zi_cc_i, zi_cc_n, zi_B_if, zi_ifF, zx_nop, zx_iconst, zx_bipush, zx_sipush, zx_lconst, zx_ldc2_w, zx_aconst_null, zx_iload, zx_iload_n, zx_lload, zx_lload_n, zx_aload, zx_aload_n, zx_istore, zx_istore_n, zx_lstore, zx_lstore_n, zx_astore, zx_astore_n, zx_iinc, zx_iadd, zx_isub, zx_imul, zx_iand, zx_ior, zx_ishl, zx_ishr, zx_idiv, zx_irem, zx_ladd, zx_ldiv, zx_lrem, zx_lcmp, zx_i2l, zx_i2b, zx_i2s, zx_pop, zx_dup, zx_dup2, zx_getfield, zx_putfield, zx_getstatic, zx_iaload, zx_iastore, zx_laload, zx_lastore, zx_aaload, zx_arraylength, zx_goto, zx_ifCond, zx_if_icmp, zx_ifnull, zx_ifnonnull, zx_tableswitch, zx_lookupswitch, zx_ireturn, zx_lreturn, zx_areturn, zx_return_, zx_invokestatic, zx_invokevirtual, zi_ldi, zi_ldl, zi_lda, zi_sti, zi_stl, zi_sta, zi_inc, zi_b2, zi_d2, zi_l2, zi_dl2, zi_lc, zi_u1, zi_pp, zi_dup, zi_dup2, zi_gf, zi_pf, zi_ial, zi_ias, zi_lal, zi_las, zi_aal, zi_aln, zi_cp, zi_cmp, zi_if, zi_ic, zi_nul, zi_nnl, zi_sw, zi_ri, zi_rl, zi_ra, zi_rv, zi_iv, zi_ivr, zi_st1, zi_st2, zq_get0, zq_getS, zq_getN, zq_put0, zq_putS, zq_putN0, zq_putNS, zq_kl0, zq_klS, zq_Ln, zq_Li, zq_Lr, zq_Lf, zq_Lz, zq_Ll, zq_ft0, zq_fti, zq_ftr, zq_ftz, zq_ftf, zq_ftl, zq_pop0, zq_popS, zq_la0, zq_lai, zq_lar, zq_laz, zq_laf, zq_lal, zq_sh0, zq_sh1, zq_sh2, zq_sh3, zq_sh4, zq_f0, zq_f1, zq_f2, zq_f3, zq_u0, zq_u1, zq_u2, zq_ro0, zq_ro1, zq_ro2, zq_fv0, zq_fv2, zq_rfs, zq_rfn, zq_gD0, zq_gDS, zq_gDN, zq_lk0, zq_lkS, zq_tb0, zq_tbS, zq_o0, zq_o1, zq_o2, zq_o98, zq_o99, zq_o100, zq_o105, zq_o107, zq_o112, zq_o115, zq_o116, zq_c0, zq_c1, zq_v0, zq_v1, decide_eq_true_eq, List.toList_toArray, if_true, if_false, ite_self, and_true, true_and, and_false, false_and, true_or, or_true, or_false, false_or, not_true_eq_false, not_false_eq_true, Bool.false_eq_true, reduceCtorEq, ne_eq, ite_not, eq_self, Prod.mk.injEq, Nat.reduceEqDiff, Nat.reduceSub, Nat.reduceAdd, Nat.reduceLT, Nat.reduceLeDiff, zc_65_10, c1]
    refine hK I ha ⟨h0, h1, h2, ⟨hkd, hsp.1, hsp.2, hc5⟩, fun u hu2 => ?_⟩
    have hu3 : u < t := hu2
    obtain ⟨g1, g2⟩ := zSgs_nI hg hu3
    refine ⟨?_, g2⟩
    rw [show 4 + 2 * n + 1 = 5 + 2 * n by omega, hu u hu3]
    exact g1
  | succ d ih =>
    intro t I ht ha h0 h1 h2 hu hK
    have c1 : ¬ nI c ≤ nI t := by (simp only [zt_eq, Int32.lt_iff_toInt_lt, Int32.le_iff_toInt_le, zt_add, zt_sub, zt_neg, zt_nI, zl_0, zl_1, zl_2, zl_3, zl_4, zl_5, zl_6, zl_7, zl_8, zl_9, zl_10, zl_16, zl_20, zl_30, zl_60, zl_1080, zl_m1, zl_m2, zl_m9]; omega)
    have hs' : I (103 + 2 * k) 2 = nI s := by rw [ha _ (by omega)]; exact hs
    have hat := fun (K : Option Value → zi_M → Prop) => s_S_at (sc := sc) (J := J) (K := K) (j := i + t) hq hs' hs60 (by omega)
    have f1 : I (103 + 2 * k + 1) (i + t) = f (i + t) := by rw [ha _ (by omega), show 103 + 2 * k + 1 = 104 + 2 * k by omega]; exact hf _ (by omega)
    have had := fun (K : Option Value → zi_M → Prop) => s_R_addSign (sc := sc) (J := J) (K := K) (g := f (i + t)) hR h2 (show t ≤ 5 by omega)
    have hcond : t < 5 ∧ 0 ≤ f (i + t) ∧ f (i + t) < 5 := ⟨by omega, hg t (by omega)⟩
    rw [zb_65_10]
    simp only [zi_wp_c, zi_wK_if, zi_wK_go, zi_wK_no, zi_wK_b, zi_wK_r, zi_wK_c, zi_cc_i, zi_cc_n, zi_B_if, zi_ifF, zx_nop, zx_iconst, zx_bipush, zx_sipush, zx_lconst, zx_ldc2_w, zx_aconst_null, zx_iload, zx_iload_n, zx_lload, zx_lload_n, zx_aload, zx_aload_n, zx_istore, zx_istore_n, zx_lstore, zx_lstore_n, zx_astore, zx_astore_n, zx_iinc, zx_iadd, zx_isub, zx_imul, zx_iand, zx_ior, zx_ishl, zx_ishr, zx_idiv, zx_irem, zx_ladd, zx_ldiv, zx_lrem, zx_lcmp, zx_i2l, zx_i2b, zx_i2s, zx_pop, zx_dup, zx_dup2, zx_getfield, zx_putfield, zx_getstatic, zx_iaload, zx_iastore, zx_laload, zx_lastore, zx_aaload, zx_arraylength, zx_goto, zx_ifCond, zx_if_icmp, zx_ifnull, zx_ifnonnull, zx_tableswitch, zx_lookupswitch, zx_ireturn, zx_lreturn, zx_areturn, zx_return_, zx_invokestatic, zx_invokevirtual, zi_ldi, zi_ldl, zi_lda, zi_sti, zi_stl, zi_sta, zi_inc, zi_b2, zi_d2, zi_l2, zi_dl2, zi_lc, zi_u1, zi_pp, zi_dup, zi_dup2, zi_gf, zi_pf, zi_ial, zi_ias, zi_lal, zi_las, zi_aal, zi_aln, zi_cp, zi_cmp, zi_if, zi_ic, zi_nul, zi_nnl, zi_sw, zi_ri, zi_rl, zi_ra, zi_rv, zi_iv, zi_ivr, zi_st1, zi_st2, zq_get0, zq_getS, zq_getN, zq_put0, zq_putS, zq_putN0, zq_putNS, zq_kl0, zq_klS, zq_Ln, zq_Li, zq_Lr, zq_Lf, zq_Lz, zq_Ll, zq_ft0, zq_fti, zq_ftr, zq_ftz, zq_ftf, zq_ftl, zq_pop0, zq_popS, zq_la0, zq_lai, zq_lar, zq_laz, zq_laf, zq_lal, zq_sh0, zq_sh1, zq_sh2, zq_sh3, zq_sh4, zq_f0, zq_f1, zq_f2, zq_f3, zq_u0, zq_u1, zq_u2, zq_ro0, zq_ro1, zq_ro2, zq_fv0, zq_fv2, zq_rfs, zq_rfn, zq_gD0, zq_gDS, zq_gDN, zq_lk0, zq_lkS, zq_tb0, zq_tbS, zq_o0, zq_o1, zq_o2, zq_o98, zq_o99, zq_o100, zq_o105, zq_o107, zq_o112, zq_o115, zq_o116, zq_c0, zq_c1, zq_v0, zq_v1, decide_eq_true_eq, List.toList_toArray, if_true, if_false, ite_self, and_true, true_and, and_false, false_and, true_or, or_true, or_false, false_or, not_true_eq_false, not_false_eq_true, Bool.false_eq_true, reduceCtorEq, ne_eq, ite_not, eq_self, Prod.mk.injEq, Nat.reduceEqDiff, Nat.reduceSub, Nat.reduceAdd, Nat.reduceLT, Nat.reduceLeDiff, zc_65_10, c1, hR1, hq1, nI_add, hat, f1, had]
    rw [if_pos hcond]
    simp only [zi_wp_c, zi_wK_if, zi_wK_go, zi_wK_no, zi_wK_b, zi_wK_r, zi_wK_c, zi_cc_i, zi_cc_n, zi_B_if, zi_ifF, zx_nop, zx_iconst, zx_bipush, zx_sipush, zx_lconst, zx_ldc2_w, zx_aconst_null, zx_iload, zx_iload_n, zx_lload, zx_lload_n, zx_aload, zx_aload_n, zx_istore, zx_istore_n, zx_lstore, zx_lstore_n, zx_astore, zx_astore_n, zx_iinc, zx_iadd, zx_isub, zx_imul, zx_iand, zx_ior, zx_ishl, zx_ishr, zx_idiv, zx_irem, zx_ladd, zx_ldiv, zx_lrem, zx_lcmp, zx_i2l, zx_i2b, zx_i2s, zx_pop, zx_dup, zx_dup2, zx_getfield, zx_putfield, zx_getstatic, zx_iaload, zx_iastore, zx_laload, zx_lastore, zx_aaload, zx_arraylength, zx_goto, zx_ifCond, zx_if_icmp, zx_ifnull, zx_ifnonnull, zx_tableswitch, zx_lookupswitch, zx_ireturn, zx_lreturn, zx_areturn, zx_return_, zx_invokestatic, zx_invokevirtual, zi_ldi, zi_ldl, zi_lda, zi_sti, zi_stl, zi_sta, zi_inc, zi_b2, zi_d2, zi_l2, zi_dl2, zi_lc, zi_u1, zi_pp, zi_dup, zi_dup2, zi_gf, zi_pf, zi_ial, zi_ias, zi_lal, zi_las, zi_aal, zi_aln, zi_cp, zi_cmp, zi_if, zi_ic, zi_nul, zi_nnl, zi_sw, zi_ri, zi_rl, zi_ra, zi_rv, zi_iv, zi_ivr, zi_st1, zi_st2, zq_get0, zq_getS, zq_getN, zq_put0, zq_putS, zq_putN0, zq_putNS, zq_kl0, zq_klS, zq_Ln, zq_Li, zq_Lr, zq_Lf, zq_Lz, zq_Ll, zq_ft0, zq_fti, zq_ftr, zq_ftz, zq_ftf, zq_ftl, zq_pop0, zq_popS, zq_la0, zq_lai, zq_lar, zq_laz, zq_laf, zq_lal, zq_sh0, zq_sh1, zq_sh2, zq_sh3, zq_sh4, zq_f0, zq_f1, zq_f2, zq_f3, zq_u0, zq_u1, zq_u2, zq_ro0, zq_ro1, zq_ro2, zq_fv0, zq_fv2, zq_rfs, zq_rfn, zq_gD0, zq_gDS, zq_gDN, zq_lk0, zq_lkS, zq_tb0, zq_tbS, zq_o0, zq_o1, zq_o2, zq_o98, zq_o99, zq_o100, zq_o105, zq_o107, zq_o112, zq_o115, zq_o116, zq_c0, zq_c1, zq_v0, zq_v1, decide_eq_true_eq, List.toList_toArray, if_true, if_false, ite_self, and_true, true_and, and_false, false_and, true_or, or_true, or_false, false_or, not_true_eq_false, not_false_eq_true, Bool.false_eq_true, reduceCtorEq, ne_eq, ite_not, eq_self, Prod.mk.injEq, Nat.reduceEqDiff, Nat.reduceSub, Nat.reduceAdd, Nat.reduceLT, Nat.reduceLeDiff, nI_1]
    refine ih (t + 1) _ (by omega) (fun a h => ?_) ?_ ?_ ?_ (fun u hu2 => ?_) hK
    · rw [zu_up_ne _ (by omega), zu_up_ne _ (by omega)]
      exact ha a h
    · rw [zu_up, if_pos rfl, if_neg (by omega), zu_up_ne _ (by omega)]; exact h0
    · rw [zu_up, if_pos rfl, if_neg (by omega), zu_up_ne _ (by omega)]; exact h1
    · rw [zu_up, if_pos rfl, if_pos rfl]
    · rw [zu_up_ne _ (by omega), show 5 + 2 * n = 4 + 2 * n + 1 by omega, zu_up, if_pos rfl]
      by_cases e : u = t
      · rw [if_pos e, e]
      · rw [if_neg e, show 4 + 2 * n + 1 = 5 + 2 * n by omega]
        exact hu u (by omega)
end ZP2
