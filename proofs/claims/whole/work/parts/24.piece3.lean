/-! a PIECE becomes another; acts of a DAY -/
theorem zReq.keep {I I1 I2 : Nat → Nat → Int32} {o q : Nat} (h : zReq I o I1 q) (h0 : I2 q = I1 q) (h1 : I2 (q + 1) = I1 (q + 1)) : zReq I o I2 q := by
  unfold zReq at h ⊢
  rw [h0, h1]
  exact h
theorem zReq.from {I I1 I2 : Nat → Nat → Int32} {o q : Nat} (h : zReq I1 o I2 q) (h0 : I1 o = I o) (h1 : I1 (o + 1) = I (o + 1)) : zReq I o I2 q := by
  unfold zReq at h ⊢
  rw [h0, h1] at h
  exact h
section ZB
variable {sc : Nat × (Nat → Int32)} {J : Nat → Nat → Int64} {K : Option Value → zi_M → Prop} {p o : Nat}
/-- piece p holds what piece o held -/
def zPeq (I : Nat → Nat → Int32) (o : Nat) (I' : Nat → Nat → Int32) (p n : Nat) : Prop := (I' p 0 = I o 0 ∧ I' p 1 = I o 1 ∧ I' p 2 = I o 2) ∧ ∀ r, r < n → zReq I (o + 2 + 2 * r) I' (p + 2 + 2 * r)
theorem l_P_become (hp : zIsP p) (ho : zIsP o) (hpo : o + 14 ≤ p ∨ p + 14 ≤ o) {n : Nat} (hn6 : n ≤ 6) {I0 : Nat → Nat → Int32} : ∀ d i (I : Nat → Nat → Int32), i + d = n → I p 2 = nI n → zAg p (p + 14) I0 I → (∀ r, r < i → zReq I0 (o + 2 + 2 * r) I (p + 2 + 2 * r)) →
    (∀ I', zAg p (p + 14) I0 I' → I' p = I p → (∀ r, r < n → zReq I0 (o + 2 + 2 * r) I' (p + 2 + 2 * r)) → K none (zm I' J)) → zi_B sc 0 0 19 1 [some (.ref p), some (.ref o), some (.int (nI i))] [] (zm I J) K := by
  obtain ⟨h1, h2, h3, h4⟩ := id hp
  obtain ⟨g1, g2, g3, g4⟩ := id ho
  intro d
  induction d with
  | zero =>
    intro i I hi hn ha hr hK
    have : i = n := by omega
    subst this
    have c1 : nI i ≤ nI i := by (simp only [zt_eq, Int32.lt_iff_toInt_lt, Int32.le_iff_toInt_le, zt_add, zt_sub, zt_neg, zt_nI, zl_0, zl_1, zl_2, zl_3, zl_4, zl_5, zl_6, zl_7, zl_8, zl_9, zl_10, zl_16, zl_20, zl_30, zl_60, zl_1080, zl_m1, zl_m2, zl_m9]; omega)
    rw [zb_19_1]
    simp only [zi_wp_c, zi_wK_if, zi_wK_go, zi_wK_no, zi_wK_b, zi_wK_r, zi_wK_c, zi_cc_i, zi_cc_n, zi_B_if, zi_ifF, zx_nop, zx_iconst, zx_bipush, zx_sipush, zx_lconst, zx_ldc2_w, zx_aconst_null, zx_iload, zx_iload_n, zx_lload, zx_lload_n, zx_aload, zx_aload_n, zx_istore, zx_istore_n, zx_lstore, zx_lstore_n, zx_astore, zx_astore_n, zx_iinc, zx_iadd, zx_isub, zx_imul, zx_iand, zx_ior, zx_ishl, zx_ishr, zx_idiv, zx_irem, zx_ladd, zx_ldiv, zx_lrem, zx_lcmp, zx_i2l, zx_i2b, zx_i2s, zx_pop, zx_dup, zx_dup2, zx_getfield, zx_putfield, zx_getstatic, zx_iaload, zx_iastore, zx_laload, zx_lastore, zx_aaload, zx_arraylength, zx_goto, zx_ifCond, zx_if_icmp, zx_ifnull, zx_ifnonnull, zx_tableswitch, zx_lookupswitch, zx_ireturn, zx_lreturn, zx_areturn, zx_return_, zx_invokestatic, zx_invokevirtual, zi_ldi, zi_ldl, zi_lda, zi_sti, zi_stl, zi_sta, zi_inc, zi_b2, zi_d2, zi_l2, zi_dl2, zi_lc, zi_u1, zi_pp, zi_dup, zi_dup2, zi_gf, zi_pf, zi_ial, zi_ias, zi_lal, zi_las, zi_aal, zi_aln, zi_cp, zi_cmp, zi_if, zi_ic, zi_nul, zi_nnl, zi_sw, zi_ri, zi_rl, zi_ra, zi_rv, zi_iv, zi_ivr, zi_st1, zi_st2, zq_get0, zq_getS, zq_getN, zq_put0, zq_putS, zq_putN0, zq_putNS, zq_kl0, zq_klS, zq_Ln, zq_Li, zq_Lr, zq_Lf, zq_Lz, zq_Ll, zq_ft0, zq_fti, zq_ftr, zq_ftz, zq_ftf, zq_ftl, zq_pop0, zq_popS, zq_la0, zq_lai, zq_lar, zq_laz, zq_laf, zq_lal, zq_sh0, zq_sh1, zq_sh2, zq_sh3, zq_sh4, zq_f0, zq_f1, zq_f2, zq_f3, zq_u0, zq_u1, zq_u2, zq_ro0, zq_ro1, zq_ro2, zq_fv0, zq_fv2, zq_rfs, zq_rfn, zq_gD0, zq_gDS, zq_gDN, zq_lk0, zq_lkS, zq_tb0, zq_tbS, zq_o0, zq_o1, zq_o2, zq_o98, zq_o99, zq_o100, zq_o105, zq_o107, zq_o112, zq_o115, zq_o116, zq_c0, zq_c1, zq_v0, zq_v1, decide_eq_true_eq, List.toList_toArray, if_true, if_false, ite_self, and_true, true_and, and_false, false_and, true_or, or_true, or_false, false_or, not_true_eq_false, not_false_eq_true, Bool.false_eq_true, reduceCtorEq, ne_eq, ite_not, eq_self, Prod.mk.injEq, Nat.reduceEqDiff, Nat.reduceSub, Nat.reduceAdd, Nat.reduceLT, Nat.reduceLeDiff, zb_19_2, zc_19_2, h1, zc_19_1, hn, c1]
    exact hK I ha rfl hr
  | succ d ih =>
    intro i I hi hn ha hr hK
    have c1 : ¬ nI n ≤ nI i := by (simp only [zt_eq, Int32.lt_iff_toInt_lt, Int32.le_iff_toInt_le, zt_add, zt_sub, zt_neg, zt_nI, zl_0, zl_1, zl_2, zl_3, zl_4, zl_5, zl_6, zl_7, zl_8, zl_9, zl_10, zl_16, zl_20, zl_30, zl_60, zl_1080, zl_m1, zl_m2, zl_m9]; omega)
    have e2 : (nI i).toNatClampNeg = i := nI_clamp (by omega)
    have hv : zi_vin (nI i) 6 = true := zv_nI (by omega) (by omega)
    obtain ⟨e3, e5⟩ := h4 i (by omega)
    obtain ⟨f3, f5⟩ := g4 i (by omega)
    rw [zb_19_1]
    simp only [zi_wp_c, zi_wK_if, zi_wK_go, zi_wK_no, zi_wK_b, zi_wK_r, zi_wK_c, zi_cc_i, zi_cc_n, zi_B_if, zi_ifF, zx_nop, zx_iconst, zx_bipush, zx_sipush, zx_lconst, zx_ldc2_w, zx_aconst_null, zx_iload, zx_iload_n, zx_lload, zx_lload_n, zx_aload, zx_aload_n, zx_istore, zx_istore_n, zx_lstore, zx_lstore_n, zx_astore, zx_astore_n, zx_iinc, zx_iadd, zx_isub, zx_imul, zx_iand, zx_ior, zx_ishl, zx_ishr, zx_idiv, zx_irem, zx_ladd, zx_ldiv, zx_lrem, zx_lcmp, zx_i2l, zx_i2b, zx_i2s, zx_pop, zx_dup, zx_dup2, zx_getfield, zx_putfield, zx_getstatic, zx_iaload, zx_iastore, zx_laload, zx_lastore, zx_aaload, zx_arraylength, zx_goto, zx_ifCond, zx_if_icmp, zx_ifnull, zx_ifnonnull, zx_tableswitch, zx_lookupswitch, zx_ireturn, zx_lreturn, zx_areturn, zx_return_, zx_invokestatic, zx_invokevirtual, zi_ldi, zi_ldl, zi_lda, zi_sti, zi_stl, zi_sta, zi_inc, zi_b2, zi_d2, zi_l2, zi_dl2, zi_lc, zi_u1, zi_pp, zi_dup, zi_dup2, zi_gf, zi_pf, zi_ial, zi_ias, zi_lal, zi_las, zi_aal, zi_aln, zi_cp, zi_cmp, zi_if, zi_ic, zi_nul, zi_nnl, zi_sw, zi_ri, zi_rl, zi_ra, zi_rv, zi_iv, zi_ivr, zi_st1, zi_st2, zq_get0, zq_getS, zq_getN, zq_put0, zq_putS, zq_putN0, zq_putNS, zq_kl0, zq_klS, zq_Ln, zq_Li, zq_Lr, zq_Lf, zq_Lz, zq_Ll, zq_ft0, zq_fti, zq_ftr, zq_ftz, zq_ftf, zq_ftl, zq_pop0, zq_popS, zq_la0, zq_lai, zq_lar, zq_laz, zq_laf, zq_lal, zq_sh0, zq_sh1, zq_sh2, zq_sh3, zq_sh4, zq_f0, zq_f1, zq_f2, zq_f3, zq_u0, zq_u1, zq_u2, zq_ro0, zq_ro1, zq_ro2, zq_fv0, zq_fv2, zq_rfs, zq_rfn, zq_gD0, zq_gDS, zq_gDN, zq_lk0, zq_lkS, zq_tb0, zq_tbS, zq_o0, zq_o1, zq_o2, zq_o98, zq_o99, zq_o100, zq_o105, zq_o107, zq_o112, zq_o115, zq_o116, zq_c0, zq_c1, zq_v0, zq_v1, decide_eq_true_eq, List.toList_toArray, if_true, if_false, ite_self, and_true, true_and, and_false, false_and, true_or, or_true, or_false, false_or, not_true_eq_false, not_false_eq_true, Bool.false_eq_true, reduceCtorEq, ne_eq, ite_not, eq_self, Prod.mk.injEq, Nat.reduceEqDiff, Nat.reduceSub, Nat.reduceAdd, Nat.reduceLT, Nat.reduceLeDiff, h1, h2, h3, g1, g2, g3, zc_19_1, hn, c1, e2, hv, e3, e5.1, f3]
    refine s_R_become e5 f5 (by omega) (fun I' a1 a2 => ?_)
    simp only [zi_wp_c, zi_wK_if, zi_wK_go, zi_wK_no, zi_wK_b, zi_wK_r, zi_wK_c, zi_cc_i, zi_cc_n, zi_B_if, zi_ifF, zx_nop, zx_iconst, zx_bipush, zx_sipush, zx_lconst, zx_ldc2_w, zx_aconst_null, zx_iload, zx_iload_n, zx_lload, zx_lload_n, zx_aload, zx_aload_n, zx_istore, zx_istore_n, zx_lstore, zx_lstore_n, zx_astore, zx_astore_n, zx_iinc, zx_iadd, zx_isub, zx_imul, zx_iand, zx_ior, zx_ishl, zx_ishr, zx_idiv, zx_irem, zx_ladd, zx_ldiv, zx_lrem, zx_lcmp, zx_i2l, zx_i2b, zx_i2s, zx_pop, zx_dup, zx_dup2, zx_getfield, zx_putfield, zx_getstatic, zx_iaload, zx_iastore, zx_laload, zx_lastore, zx_aaload, zx_arraylength, zx_goto, zx_ifCond, zx_if_icmp, zx_ifnull, zx_ifnonnull, zx_tableswitch, zx_lookupswitch, zx_ireturn, zx_lreturn, zx_areturn, zx_return_, zx_invokestatic, zx_invokevirtual, zi_ldi, zi_ldl, zi_lda, zi_sti, zi_stl, zi_sta, zi_inc, zi_b2, zi_d2, zi_l2, zi_dl2, zi_lc, zi_u1, zi_pp, zi_dup, zi_dup2, zi_gf, zi_pf, zi_ial, zi_ias, zi_lal, zi_las, zi_aal, zi_aln, zi_cp, zi_cmp, zi_if, zi_ic, zi_nul, zi_nnl, zi_sw, zi_ri, zi_rl, zi_ra, zi_rv, zi_iv, zi_ivr, zi_st1, zi_st2, zq_get0, zq_getS, zq_getN, zq_put0, zq_putS, zq_putN0, zq_putNS, zq_kl0, zq_klS, zq_Ln, zq_Li, zq_Lr, zq_Lf, zq_Lz, zq_Ll, zq_ft0, zq_fti, zq_ftr, zq_ftz, zq_ftf, zq_ftl, zq_pop0, zq_popS, zq_la0, zq_lai, zq_lar, zq_laz, zq_laf, zq_lal, zq_sh0, zq_sh1, zq_sh2, zq_sh3, zq_sh4, zq_f0, zq_f1, zq_f2, zq_f3, zq_u0, zq_u1, zq_u2, zq_ro0, zq_ro1, zq_ro2, zq_fv0, zq_fv2, zq_rfs, zq_rfn, zq_gD0, zq_gDS, zq_gDN, zq_lk0, zq_lkS, zq_tb0, zq_tbS, zq_o0, zq_o1, zq_o2, zq_o98, zq_o99, zq_o100, zq_o105, zq_o107, zq_o112, zq_o115, zq_o116, zq_c0, zq_c1, zq_v0, zq_v1, decide_eq_true_eq, List.toList_toArray, if_true, if_false, ite_self, and_true, true_and, and_false, false_and, true_or, or_true, or_false, false_or, not_true_eq_false, not_false_eq_true, Bool.false_eq_true, reduceCtorEq, ne_eq, ite_not, eq_self, Prod.mk.injEq, Nat.reduceEqDiff, Nat.reduceSub, Nat.reduceAdd, Nat.reduceLT, Nat.reduceLeDiff]
    rw [show nI i + 1 = nI (i + 1) from nI_1 i]
    refine ih (i + 1) I' (by omega) (by rw [a1 p (by omega)]; exact hn) (fun a h => (a1 a (by omega)).trans (ha a h)) (fun r hr2 => ?_) (fun I2 b1 b2 b3 => hK I2 b1 (b2.trans (a1 p (by omega))) b3)
    by_cases hri : r = i
    · subst hri
      exact a2.from (ha _ (by omega)) (ha _ (by omega))
    · exact (hr r (by omega)).keep (a1 _ (by omega)) (a1 _ (by omega))
theorem s_P_become (hp : zIsP p) (ho : zIsP o) (hpo : o + 14 ≤ p ∨ p + 14 ≤ o) {n : Nat} (hn6 : n ≤ 6) {I : Nat → Nat → Int32} (hb : I o 0 = 0 ∨ I o 0 = 1) (hn : I o 2 = nI n) (hK : ∀ I', zAg p (p + 14) I I' → zPeq I o I' p n → K none (zm I' J)) : zi_B sc 0 0 19 0 [some (.ref p), some (.ref o)] [] (zm I J) K := by
  have h1 := hp.1
  have g1 := ho.1
  have o1 : ∀ (k : Nat) (v : Int32) (I2 : Nat → Nat → Int32), zi_up I2 p k v o = I2 o := fun k v I2 => zu_up_ne I2 (by omega)
  simp only [zi_wp_c, zi_wK_if, zi_wK_go, zi_wK_no, zi_wK_b, zi_wK_r, zi_wK_c, zi_cc_i, zi_cc_n, zi_B_if, zi_ifF, zx_nop, zx_iconst, zx_bipush, zx_sipush, zx_lconst, zx_ldc2_w, zx_aconst_null, zx_iload, zx_iload_n, zx_lload, zx_lload_n, zx_aload, zx_aload_n, zx_istore, zx_istore_n, zx_lstore, zx_lstore_n, zx_astore, zx_astore_n, zx_iinc, zx_iadd, zx_isub, zx_imul, zx_iand, zx_ior, zx_ishl, zx_ishr, zx_idiv, zx_irem, zx_ladd, zx_ldiv, zx_lrem, zx_lcmp, zx_i2l, zx_i2b, zx_i2s, zx_pop, zx_dup, zx_dup2, zx_getfield, zx_putfield, zx_getstatic, zx_iaload, zx_iastore, zx_laload, zx_lastore, zx_aaload, zx_arraylength, zx_goto, zx_ifCond, zx_if_icmp, zx_ifnull, zx_ifnonnull, zx_tableswitch, zx_lookupswitch, zx_ireturn, zx_lreturn, zx_areturn, zx_return_, zx_invokestatic, zx_invokevirtual, zi_ldi, zi_ldl, zi_lda, zi_sti, zi_stl, zi_sta, zi_inc, zi_b2, zi_d2, zi_l2, zi_dl2, zi_lc, zi_u1, zi_pp, zi_dup, zi_dup2, zi_gf, zi_pf, zi_ial, zi_ias, zi_lal, zi_las, zi_aal, zi_aln, zi_cp, zi_cmp, zi_if, zi_ic, zi_nul, zi_nnl, zi_sw, zi_ri, zi_rl, zi_ra, zi_rv, zi_iv, zi_ivr, zi_st1, zi_st2, zq_get0, zq_getS, zq_getN, zq_put0, zq_putS, zq_putN0, zq_putNS, zq_kl0, zq_klS, zq_Ln, zq_Li, zq_Lr, zq_Lf, zq_Lz, zq_Ll, zq_ft0, zq_fti, zq_ftr, zq_ftz, zq_ftf, zq_ftl, zq_pop0, zq_popS, zq_la0, zq_lai, zq_lar, zq_laz, zq_laf, zq_lal, zq_sh0, zq_sh1, zq_sh2, zq_sh3, zq_sh4, zq_f0, zq_f1, zq_f2, zq_f3, zq_u0, zq_u1, zq_u2, zq_ro0, zq_ro1, zq_ro2, zq_fv0, zq_fv2, zq_rfs, zq_rfn, zq_gD0, zq_gDS, zq_gDN, zq_lk0, zq_lkS, zq_tb0, zq_tbS, zq_o0, zq_o1, zq_o2, zq_o98, zq_o99, zq_o100, zq_o105, zq_o107, zq_o112, zq_o115, zq_o116, zq_c0, zq_c1, zq_v0, zq_v1, decide_eq_true_eq, List.toList_toArray, if_true, if_false, ite_self, and_true, true_and, and_false, false_and, true_or, or_true, or_false, false_or, not_true_eq_false, not_false_eq_true, Bool.false_eq_true, reduceCtorEq, ne_eq, ite_not, eq_self, Prod.mk.injEq, Nat.reduceEqDiff, Nat.reduceSub, Nat.reduceAdd, Nat.reduceLT, Nat.reduceLeDiff, zb_19_0, zc_19_0, h1, g1, o1, hb]
  refine l_P_become hp ho hpo hn6 n 0 _ (by omega) ?_ ?_ (fun r hr => absurd hr (Nat.not_lt_zero _)) (fun I' a1 a2 a3 => hK I' a1 ⟨⟨?_, ?_, ?_⟩, a3⟩)
  · simp only [zu_up, if_true, Nat.reduceEqDiff, if_false]; exact hn
  · exact ((zAg.rf.up (Nat.le_refl _) (by omega)).up (Nat.le_refl _) (by omega)).up (Nat.le_refl _) (by omega)
  · rw [a2]; simp only [zu_up, if_true, Nat.reduceEqDiff, if_false]
  · rw [a2]; simp only [zu_up, if_true, Nat.reduceEqDiff, if_false]
  · rw [a2]; simp only [zu_up, if_true, Nat.reduceEqDiff, if_false]
theorem zPs.peq {I I' : Nat → Nat → Int32} {ring n : Nat} {rd : Nat → zRt} (h : zPs I o ring n rd) (he : zPeq I o I' p n) : zPs I' p ring n rd :=
  ⟨⟨he.1.2.1.trans h.1.1, he.1.2.2.trans h.1.2⟩, h.2.1, fun r hr => (h.2.2 r hr).req (he.2 r hr)⟩
theorem zPl.peq {I I' : Nat → Nat → Int32} {ring n : Nat} {rd : Nat → zRt} (h : zPl I o ring n rd) (he : zPeq I o I' p n) : zPl I' p ring n rd := fun r hr => by
  obtain ⟨-, -, -, r4, r5, -⟩ := he.2 r hr
  rw [r4, r5]
  exact h r hr
/-- loops depend on the rounds below alone -/
theorem zlp_cong {ring : Nat} {rd rd' : Nat → zRt} : ∀ k, (∀ r, r < k → zuR (rd' r) = zuR (rd r) ∧ zmR (rd' r) = zmR (rd r)) → zlp ring rd' k = zlp ring rd k
  | 0, _ => rfl
  | k + 1, h => by
    simp only [zlp]
    rw [zlp_cong k (fun r hr => h r (by omega)), (h k (by omega)).1, (h k (by omega)).2]
/-- an act of a DAY: how many rounds, which -/
def zdo (ring n : Nat) (rd : Nat → zRt) (a : Nat) : Option (Nat × (Nat → zRt)) :=
  if a = 0 then (if n < 1 then none else some (n - 1, rd))
  else if 10 < a then (if n < a - 10 ∨ 9 ≤ (rd (a - 11)).2.1 then none else some (n, va_up rd (a - 11) ((rd (a - 11)).1, (rd (a - 11)).2.1 + 1, (rd (a - 11)).2.2)))
  else if 6 ≤ n ∨ zco (zlp ring rd n) (zusN (a - 1)) (zmkN (a - 1)) = 0 then none else some (n + 1, va_up rd n (0, 1, 1, fun _ => a - 1))
end ZB
