/-! m's loops: findLoops -/
section ZG
variable {sc : Nat × (Nat → Int32)} {J : Nat → Nat → Int64} {K : Option Value → zi_M → Prop}
def zYw (I : Nat → Nat → Int32) (L : Nat) (x : zRt) (s t q : Nat) : Prop := zLw L x (fun k => I 128 (60 * s + k)) (fun k => I 124 (60 * (s + 1) + k)) (fun k => I 125 (60 * (s + 1) + k)) (fun k => I 126 (60 * (s + 1) + k)) (fun k => I 128 (60 * (s + 1) + k)) (fun k => I 127 (60 * s + k)) t q ∧ ∀ k, k < zsM x t + q → I 127 (60 * (s + 1) + k) = 0
def zYo (s : Nat) (I I' : Nat → Nat → Int32) : Prop := (∀ a, a < 124 ∨ 128 < a → I' a = I a) ∧ (∀ j, j < 60 * (s + 1) → I' 124 j = I 124 j ∧ I' 125 j = I 125 j ∧ I' 126 j = I 126 j ∧ I' 128 j = I 128 j) ∧ ∀ j, j < 60 * s → I' 127 j = I 127 j
theorem zYo.rf {s : Nat} {I : Nat → Nat → Int32} : zYo s I I := ⟨fun _ _ => rfl, fun _ _ => ⟨rfl, rfl, rfl, rfl⟩, fun _ _ => rfl⟩
theorem zYo.tr {s : Nat} {I I' I'' : Nat → Nat → Int32} (h : zYo s I I') (h' : zYo s I' I'') : zYo s I I'' := by
  obtain ⟨a, b, c⟩ := h
  obtain ⟨a', b', c'⟩ := h'
  refine ⟨fun x hx => (a' x hx).trans (a x hx), fun j hj => ?_, fun j hj => (c' j hj).trans (c j hj)⟩
  obtain ⟨p1, p2, p3, p4⟩ := b j hj
  obtain ⟨q1, q2, q3, q4⟩ := b' j hj
  exact ⟨q1.trans p1, q2.trans p2, q3.trans p3, q4.trans p4⟩
theorem l_m_f6 {s tm T L : Nat} {x : zRt} (hs : s < 6) (hL : L ≤ 60) {t i : Nat} (hg : zsg x t < 5) (hu : zsU x (t + 1) ≤ 60) (hm : zsM x (t + 1) ≤ 60) : ∀ d q (I : Nat → Nat → Int32), q + d = zmkN (zsg x t) → zYw I L x s t q →
    (∀ I', zYo s I I' → zYw I' L x s t (zmkN (zsg x t)) → zi_B sc 0 0 136 7 [some (.ref 111), some (.int (nI (s + 1))), some (.int (nI (zsU x t))), some (.int (nI (zsM x (t + 1)))), some (.int (nI T)), some (.int (nI tm)), some (.int (nI i)), some (.int (nI (zsg x t))), some (.int (nI (zmkN (zsg x t))))] [] (zm I' J) K) →
    zi_B sc 0 0 136 6 [some (.ref 111), some (.int (nI (s + 1))), some (.int (nI (zsU x t))), some (.int (nI (zsM x t + q))), some (.int (nI T)), some (.int (nI tm)), some (.int (nI i)), some (.int (nI (zsg x t))), some (.int (nI q))] [] (zm I J) K := by
  have hm2 := zmkN_le (zsg x t)
  have hmt : zsM x (t + 1) = zsM x t + zmkN (zsg x t) := rfl
  have hut : zsU x (t + 1) = zsU x t + zusN (zsg x t) := rfl
  intro d
  induction d with
  | zero =>
    intro q I hq hw hK
    have : q = zmkN (zsg x t) := by omega
    subst this
    have c1 : nI (zmkN (zsg x t)) ≤ nI (zmkN (zsg x t)) := by (simp only [zt_eq, Int32.lt_iff_toInt_lt, Int32.le_iff_toInt_le, zt_add, zt_sub, zt_neg, zt_nI, zl_0, zl_1, zl_2, zl_3, zl_4, zl_5, zl_6, zl_7, zl_8, zl_9, zl_10, zl_16, zl_20, zl_30, zl_60, zl_1080, zl_m1, zl_m2, zl_m9]; omega)
    rw [zb_136_6]
    simp only [zi_wp_c, zi_wK_if, zi_wK_go, zi_wK_no, zi_wK_b, zi_wK_r, zi_wK_c, zi_cc_i, zi_cc_n, zi_B_if, zi_ifF, zx_nop, zx_iconst, zx_bipush, zx_sipush, zx_lconst, zx_ldc2_w, zx_aconst_null, zx_iload, zx_iload_n, zx_lload, zx_lload_n, zx_aload, zx_aload_n, zx_istore, zx_istore_n, zx_lstore, zx_lstore_n, zx_astore, zx_astore_n, zx_iinc, zx_iadd, zx_isub, zx_imul, zx_iand, zx_ior, zx_ishl, zx_ishr, zx_idiv, zx_irem, zx_ladd, zx_ldiv, zx_lrem, zx_lcmp, zx_i2l, zx_i2b, zx_i2s, zx_pop, zx_dup, zx_dup2, zx_getfield, zx_putfield, zx_getstatic, zx_iaload, zx_iastore, zx_laload, zx_lastore, zx_aaload, zx_arraylength, zx_goto, zx_ifCond, zx_if_icmp, zx_ifnull, zx_ifnonnull, zx_tableswitch, zx_lookupswitch, zx_ireturn, zx_lreturn, zx_areturn, zx_return_, zx_invokestatic, zx_invokevirtual, zi_ldi, zi_ldl, zi_lda, zi_sti, zi_stl, zi_sta, zi_inc, zi_b2, zi_d2, zi_l2, zi_dl2, zi_lc, zi_u1, zi_pp, zi_dup, zi_dup2, zi_gf, zi_pf, zi_ial, zi_ias, zi_lal, zi_las, zi_aal, zi_aln, zi_cp, zi_cmp, zi_if, zi_ic, zi_nul, zi_nnl, zi_sw, zi_ri, zi_rl, zi_ra, zi_rv, zi_iv, zi_ivr, zi_st1, zi_st2, zq_get0, zq_getS, zq_getN, zq_put0, zq_putS, zq_putN0, zq_putNS, zq_kl0, zq_klS, zq_Ln, zq_Li, zq_Lr, zq_Lf, zq_Lz, zq_Ll, zq_ft0, zq_fti, zq_ftr, zq_ftz, zq_ftf, zq_ftl, zq_pop0, zq_popS, zq_la0, zq_lai, zq_lar, zq_laz, zq_laf, zq_lal, zq_sh0, zq_sh1, zq_sh2, zq_sh3, zq_sh4, zq_f0, zq_f1, zq_f2, zq_f3, zq_u0, zq_u1, zq_u2, zq_ro0, zq_ro1, zq_ro2, zq_fv0, zq_fv2, zq_rfs, zq_rfn, zq_gD0, zq_gDS, zq_gDN, zq_lk0, zq_lkS, zq_tb0, zq_tbS, zq_o0, zq_o1, zq_o2, zq_o98, zq_o99, zq_o100, zq_o105, zq_o107, zq_o112, zq_o115, zq_o116, zq_c0, zq_c1, zq_v0, zq_v1, decide_eq_true_eq, List.toList_toArray, if_true, if_false, ite_self, and_true, true_and, and_false, false_and, true_or, or_true, or_false, false_or, not_true_eq_false, not_false_eq_true, Bool.false_eq_true, reduceCtorEq, ne_eq, ite_not, eq_self, Prod.mk.injEq, Nat.reduceEqDiff, Nat.reduceSub, Nat.reduceAdd, Nat.reduceLT, Nat.reduceLeDiff, zc_136_6, s_m_madeBy, zmade_nI hg, c1]
    rw [← hmt]
    exact hK I zYo.rf hw
  | succ d ih =>
    intro q I hq hw hK
    have c1 : ¬ nI (zmkN (zsg x t)) ≤ nI q := by (simp only [zt_eq, Int32.lt_iff_toInt_lt, Int32.le_iff_toInt_le, zt_add, zt_sub, zt_neg, zt_nI, zl_0, zl_1, zl_2, zl_3, zl_4, zl_5, zl_6, zl_7, zl_8, zl_9, zl_10, zl_16, zl_20, zl_30, zl_60, zl_1080, zl_m1, zl_m2, zl_m9]; omega)
    rw [zb_136_6]
    simp only [zi_wp_c, zi_wK_if, zi_wK_go, zi_wK_no, zi_wK_b, zi_wK_r, zi_wK_c, zi_cc_i, zi_cc_n, zi_B_if, zi_ifF, zx_nop, zx_iconst, zx_bipush, zx_sipush, zx_lconst, zx_ldc2_w, zx_aconst_null, zx_iload, zx_iload_n, zx_lload, zx_lload_n, zx_aload, zx_aload_n, zx_istore, zx_istore_n, zx_lstore, zx_lstore_n, zx_astore, zx_astore_n, zx_iinc, zx_iadd, zx_isub, zx_imul, zx_iand, zx_ior, zx_ishl, zx_ishr, zx_idiv, zx_irem, zx_ladd, zx_ldiv, zx_lrem, zx_lcmp, zx_i2l, zx_i2b, zx_i2s, zx_pop, zx_dup, zx_dup2, zx_getfield, zx_putfield, zx_getstatic, zx_iaload, zx_iastore, zx_laload, zx_lastore, zx_aaload, zx_arraylength, zx_goto, zx_ifCond, zx_if_icmp, zx_ifnull, zx_ifnonnull, zx_tableswitch, zx_lookupswitch, zx_ireturn, zx_lreturn, zx_areturn, zx_return_, zx_invokestatic, zx_invokevirtual, zi_ldi, zi_ldl, zi_lda, zi_sti, zi_stl, zi_sta, zi_inc, zi_b2, zi_d2, zi_l2, zi_dl2, zi_lc, zi_u1, zi_pp, zi_dup, zi_dup2, zi_gf, zi_pf, zi_ial, zi_ias, zi_lal, zi_las, zi_aal, zi_aln, zi_cp, zi_cmp, zi_if, zi_ic, zi_nul, zi_nnl, zi_sw, zi_ri, zi_rl, zi_ra, zi_rv, zi_iv, zi_ivr, zi_st1, zi_st2, zq_get0, zq_getS, zq_getN, zq_put0, zq_putS, zq_putN0, zq_putNS, zq_kl0, zq_klS, zq_Ln, zq_Li, zq_Lr, zq_Lf, zq_Lz, zq_Ll, zq_ft0, zq_fti, zq_ftr, zq_ftz, zq_ftf, zq_ftl, zq_pop0, zq_popS, zq_la0, zq_lai, zq_lar, zq_laz, zq_laf, zq_lal, zq_sh0, zq_sh1, zq_sh2, zq_sh3, zq_sh4, zq_f0, zq_f1, zq_f2, zq_f3, zq_u0, zq_u1, zq_u2, zq_ro0, zq_ro1, zq_ro2, zq_fv0, zq_fv2, zq_rfs, zq_rfn, zq_gD0, zq_gDS, zq_gDN, zq_lk0, zq_lkS, zq_tb0, zq_tbS, zq_o0, zq_o1, zq_o2, zq_o98, zq_o99, zq_o100, zq_o105, zq_o107, zq_o112, zq_o115, zq_o116, zq_c0, zq_c1, zq_v0, zq_v1, decide_eq_true_eq, List.toList_toArray, if_true, if_false, ite_self, and_true, true_and, and_false, false_and, true_or, or_true, or_false, false_or, not_true_eq_false, not_false_eq_true, Bool.false_eq_true, reduceCtorEq, ne_eq, ite_not, eq_self, Prod.mk.injEq, Nat.reduceEqDiff, Nat.reduceSub, Nat.reduceAdd, Nat.reduceLT, Nat.reduceLeDiff, zc_136_6, s_m_madeBy, zmade_nI hg, c1, zmt_111]
    refine s_m_wl hs (by omega) hg (by omega) (fun I' a1 a2 a3 a4 => ?_)
    simp only [zi_wp_c, zi_wK_if, zi_wK_go, zi_wK_no, zi_wK_b, zi_wK_r, zi_wK_c, zi_cc_i, zi_cc_n, zi_B_if, zi_ifF, zx_nop, zx_iconst, zx_bipush, zx_sipush, zx_lconst, zx_ldc2_w, zx_aconst_null, zx_iload, zx_iload_n, zx_lload, zx_lload_n, zx_aload, zx_aload_n, zx_istore, zx_istore_n, zx_lstore, zx_lstore_n, zx_astore, zx_astore_n, zx_iinc, zx_iadd, zx_isub, zx_imul, zx_iand, zx_ior, zx_ishl, zx_ishr, zx_idiv, zx_irem, zx_ladd, zx_ldiv, zx_lrem, zx_lcmp, zx_i2l, zx_i2b, zx_i2s, zx_pop, zx_dup, zx_dup2, zx_getfield, zx_putfield, zx_getstatic, zx_iaload, zx_iastore, zx_laload, zx_lastore, zx_aaload, zx_arraylength, zx_goto, zx_ifCond, zx_if_icmp, zx_ifnull, zx_ifnonnull, zx_tableswitch, zx_lookupswitch, zx_ireturn, zx_lreturn, zx_areturn, zx_return_, zx_invokestatic, zx_invokevirtual, zi_ldi, zi_ldl, zi_lda, zi_sti, zi_stl, zi_sta, zi_inc, zi_b2, zi_d2, zi_l2, zi_dl2, zi_lc, zi_u1, zi_pp, zi_dup, zi_dup2, zi_gf, zi_pf, zi_ial, zi_ias, zi_lal, zi_las, zi_aal, zi_aln, zi_cp, zi_cmp, zi_if, zi_ic, zi_nul, zi_nnl, zi_sw, zi_ri, zi_rl, zi_ra, zi_rv, zi_iv, zi_ivr, zi_st1, zi_st2, zq_get0, zq_getS, zq_getN, zq_put0, zq_putS, zq_putN0, zq_putNS, zq_kl0, zq_klS, zq_Ln, zq_Li, zq_Lr, zq_Lf, zq_Lz, zq_Ll, zq_ft0, zq_fti, zq_ftr, zq_ftz, zq_ftf, zq_ftl, zq_pop0, zq_popS, zq_la0, zq_lai, zq_lar, zq_laz, zq_laf, zq_lal, zq_sh0, zq_sh1, zq_sh2, zq_sh3, zq_sh4, zq_f0, zq_f1, zq_f2, zq_f3, zq_u0, zq_u1, zq_u2, zq_ro0, zq_ro1, zq_ro2, zq_fv0, zq_fv2, zq_rfs, zq_rfn, zq_gD0, zq_gDS, zq_gDN, zq_lk0, zq_lkS, zq_tb0, zq_tbS, zq_o0, zq_o1, zq_o2, zq_o98, zq_o99, zq_o100, zq_o105, zq_o107, zq_o112, zq_o115, zq_o116, zq_c0, zq_c1, zq_v0, zq_v1, decide_eq_true_eq, List.toList_toArray, if_true, if_false, ite_self, and_true, true_and, and_false, false_and, true_or, or_true, or_false, false_or, not_true_eq_false, not_false_eq_true, Bool.false_eq_true, reduceCtorEq, ne_eq, ite_not, eq_self, Prod.mk.injEq, Nat.reduceEqDiff, Nat.reduceSub, Nat.reduceAdd, Nat.reduceLT, Nat.reduceLeDiff]
    rw [nI_1, nI_1, Nat.add_assoc]
    have ho : zYo s I I' := ⟨a1, fun j hj => a2 j (by omega), fun j hj => by rw [a4 j, if_neg (by omega), if_neg (by omega)]⟩
    refine ih (q + 1) I' (by omega) ⟨?_, fun k hk => ?_⟩ (fun I2 b1 b2 => hK I2 (zYo.tr ho b1) b2)
    · have hb : (fun k => I' 128 (60 * s + k)) = fun k => if k < 60 then I 128 (60 * s + k) else I' 128 (60 * s + k) := by
        funext k
        by_cases h : k < 60
        · rw [if_pos h]; exact (a2 _ (by omega)).2.2.2
        · rw [if_neg h]
      have hcg : ∀ u c, u + c ≤ 60 → zor (fun k => I' 128 (60 * s + k)) u c = zor (fun k => I 128 (60 * s + k)) u c := fun u c h => zor_cong c (fun i h1 h2 => (a2 (60 * s + i) (by omega)).2.2.2)
      have hp := hw.1.put (bs' := fun k => I' 124 (60 * (s + 1) + k)) (fi' := fun k => I' 125 (60 * (s + 1) + k)) (la' := fun k => I' 126 (60 * (s + 1) + k)) (ro' := fun k => I' 128 (60 * (s + 1) + k)) (ab' := fun k => I' 127 (60 * s + k)) (fun k hk => a2 (60 * (s + 1) + k) (by omega)) a3 (fun k hk => by
        show I' 127 (60 * s + k) = if zsU x t ≤ k ∧ k < zsU x (t + 1) then I 127 (60 * s + k) + 1 else I 127 (60 * s + k)
        rw [a4, if_neg (by omega), hut]
        by_cases c : zsU x t ≤ k ∧ k < zsU x t + zusN (zsg x t)
        · rw [if_pos (by omega), if_pos c]
        · rw [if_neg (by omega), if_neg c])
      obtain ⟨p1, p2, p3⟩ := hp
      refine ⟨fun t' ht q' hq' => ?_, fun q' hq' => ?_, p3⟩
      · obtain ⟨r1, r2, r3, r4⟩ := p1 t' ht q' hq'
        have hm3 := zsU_mn x (show t' + 1 ≤ t + 1 by omega)
        simp only [zsU] at hm3 hut hu
        exact ⟨r1, r2, r3, r4.trans (hcg _ _ (by omega)).symm⟩
      · obtain ⟨r1, r2, r3, r4⟩ := p2 q' hq'
        exact ⟨r1, r2, r3, r4.trans (hcg _ _ (by omega)).symm⟩
    · rw [a4]
      by_cases e : k = zsM x t + q
      · rw [if_pos (by omega)]
      · rw [if_neg (by omega), if_neg (by omega)]
        exact hw.2 k (by omega)
end ZG
