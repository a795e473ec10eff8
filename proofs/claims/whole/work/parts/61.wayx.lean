/-! ways on x's side -/
theorem zu_upJ (J : Nat → Nat → Int64) (i k : Nat) (v : Int64) (a b : Nat) : zi_up J i k v a b = if a = i then (if b = k then v else J i b) else J a b := by
  unfold zi_up zi_row va_up
  by_cases h : a = i
  · rw [if_pos h, if_pos h]
  · rw [if_neg h, if_neg h]
theorem zset_getD (l : List Nat) (i x v : Nat) (h : i < l.length) : (l.set i x).getD v 0 = if v = i then x else l.getD v 0 := by
  rw [List.getD_eq_getElem?_getD, List.getD_eq_getElem?_getD, List.getElem?_set]
  by_cases e : v = i
  · rw [if_pos e, if_pos e.symm, if_pos h]; rfl
  · rw [if_neg e, if_neg (fun q => e q.symm)]
theorem zpu_le (p : Nat) : zpu p ≤ 4 := by
  unfold zpu
  have a := zusN_le p
  have b := zusN_le ((p - 5) / 5)
  have c := zusN_le ((p - 5) % 5)
  split <;> omega
theorem zpm_le (p : Nat) : zpm p ≤ 4 := by
  unfold zpm
  have a := zmkN_le p
  have b := zmkN_le ((p - 5) / 5)
  have c := zmkN_le ((p - 5) % 5)
  split <;> omega
theorem zq_L0 : Int64.ofNat ((0 : Fin 2).val) = 0 := rfl
theorem zq_L1 : Int64.ofNat ((1 : Fin 2).val) = 1 := rfl
def zWp (l : List Nat) (a : Nat) (acc : List Nat) (t : Nat) : List Nat := ((List.range t).map (fun p => p + 5)).foldl (zW1 l a) acc
theorem zWp_0 (l : List Nat) (a : Nat) (acc : List Nat) : zWp l a acc 0 = acc := rfl
theorem zWp_s (l : List Nat) (a : Nat) (acc : List Nat) (t : Nat) : zWp l a acc (t + 1) = zW1 l a (zWp l a acc t) (t + 5) := by
  unfold zWp
  rw [List.range_succ, List.map_append, List.foldl_append]
  rfl
theorem zW2_p (l : List Nat) (a : Nat) (acc : List Nat) : zW2 l acc a = zWp l a acc 25 := rfl
def zWa (l : List Nat) (t : Nat) : List Nat := ((List.range t).map (fun a => a + 1)).foldl (zW2 l) (List.replicate 61 0)
theorem zWa_s (l : List Nat) (t : Nat) : zWa l (t + 1) = zW2 l (zWa l t) (t + 1) := by
  unfold zWa
  rw [List.range_succ, List.map_append, List.foldl_append]
  rfl
theorem zWn_a (f n : Nat) : zWn f (n + 1) = zWa (zWn f n) 60 := rfl
theorem zW1_len (l : List Nat) (a : Nat) (acc : List Nat) (p : Nat) : (zW1 l a acc p).length = acc.length := by
  unfold zW1
  split
  · rw [List.length_set]
  · rfl
theorem zWp_len (l : List Nat) (a : Nat) (acc : List Nat) : ∀ t, (zWp l a acc t).length = acc.length
  | 0 => rfl
  | t + 1 => by rw [zWp_s, zW1_len, zWp_len l a acc t]
theorem zWa_len (l : List Nat) : ∀ t, (zWa l t).length = 61
  | 0 => List.length_replicate
  | t + 1 => by rw [zWa_s, zW2_p, zWp_len, zWa_len l t]
theorem zW1_at (l : List Nat) (a : Nat) (acc : List Nat) (p v : Nat) (h : acc.length = 61) : (zW1 l a acc p).getD v 0 = if 0 < zco a (zpu p) (zpm p) ∧ v = zco a (zpu p) (zpm p) then acc.getD v 0 + l.getD a 0 else acc.getD v 0 := by
  unfold zW1
  have hz := zco_le a (zpu p) (zpm p)
  by_cases c : 0 < zco a (zpu p) (zpm p)
  · rw [if_pos c, zset_getD _ _ _ _ (by omega)]
    by_cases e : v = zco a (zpu p) (zpm p)
    · rw [if_pos e, if_pos ⟨c, e⟩, e]
    · rw [if_neg e, if_neg (fun q => e q.2)]
  · rw [if_neg c, if_neg (fun q => c q.1)]
/-- where nothing is added, nothing changes -/
theorem zWp_no (l : List Nat) (a : Nat) (acc : List Nat) (h : acc.length = 61) (hz : lN (l.getD a 0) = 0) (v : Nat) : ∀ t, lN ((zWp l a acc t).getD v 0) = lN (acc.getD v 0)
  | 0 => rfl
  | t + 1 => by
    rw [zWp_s, zW1_at _ _ _ _ _ (by rw [zWp_len]; exact h), ← zWp_no l a acc h hz v t]
    split
    · rw [← lN_add, hz, Int64.add_zero]
    · rfl
theorem zrep_getD (v : Nat) : (List.replicate 61 0).getD v 0 = 0 := by
  rw [List.getD_eq_getElem?_getD, List.getElem?_replicate]
  split <;> rfl
theorem zw_rows : ∀ n, n < 6 → zRC 96 n = some (97 + n) ∧ zMT (97 + n) = (2, 1, 61)
  | 0, _ => ⟨rfl, rfl⟩
  | 1, _ => ⟨rfl, rfl⟩
  | 2, _ => ⟨rfl, rfl⟩
  | 3, _ => ⟨rfl, rfl⟩
  | 4, _ => ⟨rfl, rfl⟩
  | 5, _ => ⟨rfl, rfl⟩
section ZWX
variable {sc : Nat × (Nat → Int32)} {I : Nat → Nat → Int32} {K : Option Value → zi_M → Prop} {S : zS}
theorem l_J_fillJ {a len : Nat} {v : Int64} (ha : zMT a = (2, 1, len)) (hl : len ≤ 1000) : ∀ d i (J : Nat → Nat → Int64), i + d = len → (∀ j, j < i → J a j = v) → (∀ J', (∀ b, b ≠ a → J' b = J b) → (∀ j, j < len → J' a j = v) → K none (zm I J')) → zi_B sc 0 0 10 1 [some (.ref a), some (.long v), none, some (.int (nI i)), some (.int (nI len))] [] (zm I J) K := by
  intro d
  induction d with
  | zero =>
    intro i J hi hu hK
    have : i = len := by omega
    subst this
    have c1 : nI i ≤ nI i := by (simp only [zt_eq, Int32.lt_iff_toInt_lt, Int32.le_iff_toInt_le, zt_add, zt_sub, zt_neg, zt_nI, zl_0, zl_1, zl_2, zl_3, zl_4, zl_5, zl_6, zl_7, zl_8, zl_9, zl_10, zl_16, zl_20, zl_30, zl_60, zl_1080, zl_m1, zl_m2, zl_m9]; omega)
    rw [zb_10_1]
    simp only [zi_wp_c, zi_wK_if, zi_wK_go, zi_wK_no, zi_wK_b, zi_wK_r, zi_wK_c, zi_cc_i, zi_cc_n, zi_B_if, zi_ifF, zx_nop, zx_iconst, zx_bipush, zx_sipush, zx_lconst, zx_ldc2_w, zx_aconst_null, zx_iload, zx_iload_n, zx_lload, zx_lload_n, zx_aload, zx_aload_n, zx_istore, zx_istore_n, zx_lstore, zx_lstore_n, zx_astore, zx_astore_n, zx_iinc, zx_iadd, zx_isub, zx_imul, zx_iand, zx_ior, zx_ishl, zx_ishr, zx_idiv, zx_irem, zx_ladd, zx_ldiv, zx_lrem, zx_lcmp, zx_i2l, zx_i2b, zx_i2s, zx_pop, zx_dup, zx_dup2, zx_getfield, zx_putfield, zx_getstatic, zx_iaload, zx_iastore, zx_laload, zx_lastore, zx_aaload, zx_arraylength, zx_goto, zx_ifCond, zx_if_icmp, zx_ifnull, zx_ifnonnull, zx_tableswitch, zx_lookupswitch, zx_ireturn, zx_lreturn, zx_areturn, zx_return_, zx_invokestatic, zx_invokevirtual, zi_ldi, zi_ldl, zi_lda, zi_sti, zi_stl, zi_sta, zi_inc, zi_b2, zi_d2, zi_l2, zi_dl2, zi_lc, zi_u1, zi_pp, zi_dup, zi_dup2, zi_gf, zi_pf, zi_ial, zi_ias, zi_lal, zi_las, zi_aal, zi_aln, zi_cp, zi_cmp, zi_if, zi_ic, zi_nul, zi_nnl, zi_sw, zi_ri, zi_rl, zi_ra, zi_rv, zi_iv, zi_ivr, zi_st1, zi_st2, zq_get0, zq_getS, zq_getN, zq_put0, zq_putS, zq_putN0, zq_putNS, zq_kl0, zq_klS, zq_Ln, zq_Li, zq_Lr, zq_Lf, zq_Lz, zq_Ll, zq_ft0, zq_fti, zq_ftr, zq_ftz, zq_ftf, zq_ftl, zq_pop0, zq_popS, zq_la0, zq_lai, zq_lar, zq_laz, zq_laf, zq_lal, zq_sh0, zq_sh1, zq_sh2, zq_sh3, zq_sh4, zq_f0, zq_f1, zq_f2, zq_f3, zq_u0, zq_u1, zq_u2, zq_ro0, zq_ro1, zq_ro2, zq_fv0, zq_fv2, zq_rfs, zq_rfn, zq_gD0, zq_gDS, zq_gDN, zq_lk0, zq_lkS, zq_tb0, zq_tbS, zq_o0, zq_o1, zq_o2, zq_o98, zq_o99, zq_o100, zq_o105, zq_o107, zq_o112, zq_o115, zq_o116, zq_c0, zq_c1, zq_v0, zq_v1, decide_eq_true_eq, List.toList_toArray, if_true, if_false, ite_self, and_true, true_and, and_false, false_and, true_or, or_true, or_false, false_or, not_true_eq_false, not_false_eq_true, Bool.false_eq_true, reduceCtorEq, ne_eq, ite_not, eq_self, Prod.mk.injEq, Nat.reduceEqDiff, Nat.reduceSub, Nat.reduceAdd, Nat.reduceLT, Nat.reduceLeDiff, zb_10_2, zc_10_2, zc_10_1, c1]
    exact hK J (fun _ _ => rfl) hu
  | succ d ih =>
    intro i J hi hu hK
    have c1 : ¬ nI len ≤ nI i := by (simp only [zt_eq, Int32.lt_iff_toInt_lt, Int32.le_iff_toInt_le, zt_add, zt_sub, zt_neg, zt_nI, zl_0, zl_1, zl_2, zl_3, zl_4, zl_5, zl_6, zl_7, zl_8, zl_9, zl_10, zl_16, zl_20, zl_30, zl_60, zl_1080, zl_m1, zl_m2, zl_m9]; omega)
    have hv : zi_vin (nI i) len = true := zv_nI (by omega) (by omega)
    have e1 : (nI i).toNatClampNeg = i := nI_clamp (by omega)
    rw [zb_10_1]
    simp only [zi_wp_c, zi_wK_if, zi_wK_go, zi_wK_no, zi_wK_b, zi_wK_r, zi_wK_c, zi_cc_i, zi_cc_n, zi_B_if, zi_ifF, zx_nop, zx_iconst, zx_bipush, zx_sipush, zx_lconst, zx_ldc2_w, zx_aconst_null, zx_iload, zx_iload_n, zx_lload, zx_lload_n, zx_aload, zx_aload_n, zx_istore, zx_istore_n, zx_lstore, zx_lstore_n, zx_astore, zx_astore_n, zx_iinc, zx_iadd, zx_isub, zx_imul, zx_iand, zx_ior, zx_ishl, zx_ishr, zx_idiv, zx_irem, zx_ladd, zx_ldiv, zx_lrem, zx_lcmp, zx_i2l, zx_i2b, zx_i2s, zx_pop, zx_dup, zx_dup2, zx_getfield, zx_putfield, zx_getstatic, zx_iaload, zx_iastore, zx_laload, zx_lastore, zx_aaload, zx_arraylength, zx_goto, zx_ifCond, zx_if_icmp, zx_ifnull, zx_ifnonnull, zx_tableswitch, zx_lookupswitch, zx_ireturn, zx_lreturn, zx_areturn, zx_return_, zx_invokestatic, zx_invokevirtual, zi_ldi, zi_ldl, zi_lda, zi_sti, zi_stl, zi_sta, zi_inc, zi_b2, zi_d2, zi_l2, zi_dl2, zi_lc, zi_u1, zi_pp, zi_dup, zi_dup2, zi_gf, zi_pf, zi_ial, zi_ias, zi_lal, zi_las, zi_aal, zi_aln, zi_cp, zi_cmp, zi_if, zi_ic, zi_nul, zi_nnl, zi_sw, zi_ri, zi_rl, zi_ra, zi_rv, zi_iv, zi_ivr, zi_st1, zi_st2, zq_get0, zq_getS, zq_getN, zq_put0, zq_putS, zq_putN0, zq_putNS, zq_kl0, zq_klS, zq_Ln, zq_Li, zq_Lr, zq_Lf, zq_Lz, zq_Ll, zq_ft0, zq_fti, zq_ftr, zq_ftz, zq_ftf, zq_ftl, zq_pop0, zq_popS, zq_la0, zq_lai, zq_lar, zq_laz, zq_laf, zq_lal, zq_sh0, zq_sh1, zq_sh2, zq_sh3, zq_sh4, zq_f0, zq_f1, zq_f2, zq_f3, zq_u0, zq_u1, zq_u2, zq_ro0, zq_ro1, zq_ro2, zq_fv0, zq_fv2, zq_rfs, zq_rfn, zq_gD0, zq_gDS, zq_gDN, zq_lk0, zq_lkS, zq_tb0, zq_tbS, zq_o0, zq_o1, zq_o2, zq_o98, zq_o99, zq_o100, zq_o105, zq_o107, zq_o112, zq_o115, zq_o116, zq_c0, zq_c1, zq_v0, zq_v1, decide_eq_true_eq, List.toList_toArray, if_true, if_false, ite_self, and_true, true_and, and_false, false_and, true_or, or_true, or_false, false_or, not_true_eq_false, not_false_eq_true, Bool.false_eq_true, reduceCtorEq, ne_eq, ite_not, eq_self, Prod.mk.injEq, Nat.reduceEqDiff, Nat.reduceSub, Nat.reduceAdd, Nat.reduceLT, Nat.reduceLeDiff, zc_10_1, c1, ha, hv, e1, nI_1]
    refine ih (i + 1) _ (by omega) (fun j hj => ?_) (fun J' b1 b2 => hK J' (fun b hb => by rw [b1 b hb, zu_up_ne _ hb]) b2)
    rw [zu_upJ, if_pos rfl]
    by_cases h : j = i
    · rw [if_pos h]
    · rw [if_neg h]; exact hu j (by omega)
theorem s_J_fillJ {a len : Nat} {v : Int64} {J : Nat → Nat → Int64} (ha : zMT a = (2, 1, len)) (hl : len ≤ 1000) (hK : ∀ J', (∀ b, b ≠ a → J' b = J b) → (∀ j, j < len → J' a j = v) → K none (zm I J')) : zi_B sc 0 0 10 0 [some (.ref a), some (.long v), none] [] (zm I J) K := by
  have key := l_J_fillJ (sc := sc) (I := I) (K := K) (v := v) ha hl len 0 J (by omega) (fun j hj => absurd hj (Nat.not_lt_zero _)) hK
  rw [show nI 0 = 0 from rfl] at key
  rw [zb_10_0]
  simp only [zi_wp_c, zi_wK_if, zi_wK_go, zi_wK_no, zi_wK_b, zi_wK_r, zi_wK_c, zi_cc_i, zi_cc_n, zi_B_if, zi_ifF, zx_nop, zx_iconst, zx_bipush, zx_sipush, zx_lconst, zx_ldc2_w, zx_aconst_null, zx_iload, zx_iload_n, zx_lload, zx_lload_n, zx_aload, zx_aload_n, zx_istore, zx_istore_n, zx_lstore, zx_lstore_n, zx_astore, zx_astore_n, zx_iinc, zx_iadd, zx_isub, zx_imul, zx_iand, zx_ior, zx_ishl, zx_ishr, zx_idiv, zx_irem, zx_ladd, zx_ldiv, zx_lrem, zx_lcmp, zx_i2l, zx_i2b, zx_i2s, zx_pop, zx_dup, zx_dup2, zx_getfield, zx_putfield, zx_getstatic, zx_iaload, zx_iastore, zx_laload, zx_lastore, zx_aaload, zx_arraylength, zx_goto, zx_ifCond, zx_if_icmp, zx_ifnull, zx_ifnonnull, zx_tableswitch, zx_lookupswitch, zx_ireturn, zx_lreturn, zx_areturn, zx_return_, zx_invokestatic, zx_invokevirtual, zi_ldi, zi_ldl, zi_lda, zi_sti, zi_stl, zi_sta, zi_inc, zi_b2, zi_d2, zi_l2, zi_dl2, zi_lc, zi_u1, zi_pp, zi_dup, zi_dup2, zi_gf, zi_pf, zi_ial, zi_ias, zi_lal, zi_las, zi_aal, zi_aln, zi_cp, zi_cmp, zi_if, zi_ic, zi_nul, zi_nnl, zi_sw, zi_ri, zi_rl, zi_ra, zi_rv, zi_iv, zi_ivr, zi_st1, zi_st2, zq_get0, zq_getS, zq_getN, zq_put0, zq_putS, zq_putN0, zq_putNS, zq_kl0, zq_klS, zq_Ln, zq_Li, zq_Lr, zq_Lf, zq_Lz, zq_Ll, zq_ft0, zq_fti, zq_ftr, zq_ftz, zq_ftf, zq_ftl, zq_pop0, zq_popS, zq_la0, zq_lai, zq_lar, zq_laz, zq_laf, zq_lal, zq_sh0, zq_sh1, zq_sh2, zq_sh3, zq_sh4, zq_f0, zq_f1, zq_f2, zq_f3, zq_u0, zq_u1, zq_u2, zq_ro0, zq_ro1, zq_ro2, zq_fv0, zq_fv2, zq_rfs, zq_rfn, zq_gD0, zq_gDS, zq_gDN, zq_lk0, zq_lkS, zq_tb0, zq_tbS, zq_o0, zq_o1, zq_o2, zq_o98, zq_o99, zq_o100, zq_o105, zq_o107, zq_o112, zq_o115, zq_o116, zq_c0, zq_c1, zq_v0, zq_v1, decide_eq_true_eq, List.toList_toArray, if_true, if_false, ite_self, and_true, true_and, and_false, false_and, true_or, or_true, or_false, false_or, not_true_eq_false, not_false_eq_true, Bool.false_eq_true, reduceCtorEq, ne_eq, ite_not, eq_self, Prod.mk.injEq, Nat.reduceEqDiff, Nat.reduceSub, Nat.reduceAdd, Nat.reduceLT, Nat.reduceLeDiff, zc_10_0, ha]
  exact key
theorem l_N_aw {T a : Nat} {l acc : List Nat} (hpt : zPt I) (hT : zMT T = (2, 1, 61)) (ha : a ≤ 60) (hlen : acc.length = 61) : ∀ d t (J : Nat → Nat → Int64) (tl : zL1), t + d = 25 → (tl = [] ∨ ∃ x : Int32, tl = [some (.int x)]) → (∀ v, v < 61 → J T v = lN ((zWp l a acc t).getD v 0)) →
    (∀ J', (∀ b, b ≠ T → J' b = J b) → (∀ v, v < 61 → J' T v = lN ((zWp l a acc 25).getD v 0)) → K none (zm I J')) →
    zi_B sc 0 0 33 2 ([some (.ref 89), some (.long (lN (l.getD a 0))), none, some (.int (nI a)), some (.ref T), some (.int (nI (t + 5)))] ++ tl) [] (zm I J) K := by
  intro d
  induction d with
  | zero =>
    intro t J tl ht hl hu hK
    have : t = 25 := by omega
    subst this
    have c1 : (30 : Int32) ≤ nI (25 + 5) := by decide
    rw [zb_33_2]
    rcases hl with rfl | ⟨x, rfl⟩
    all_goals simp only [List.append_nil, List.cons_append, List.nil_append]
    all_goals simp only [zi_wp_c, zi_wK_if, zi_wK_go, zi_wK_no, zi_wK_b, zi_wK_r, zi_wK_c, zi_cc_i, zi_cc_n, zi_B_if, zi_ifF, zx_nop, zx_iconst, zx_bipush, zx_sipush, zx_lconst, zx_ldc2_w, zx_aconst_null, zx_iload, zx_iload_n, zx_lload, zx_lload_n, zx_aload, zx_aload_n, zx_istore, zx_istore_n, zx_lstore, zx_lstore_n, zx_astore, zx_astore_n, zx_iinc, zx_iadd, zx_isub, zx_imul, zx_iand, zx_ior, zx_ishl, zx_ishr, zx_idiv, zx_irem, zx_ladd, zx_ldiv, zx_lrem, zx_lcmp, zx_i2l, zx_i2b, zx_i2s, zx_pop, zx_dup, zx_dup2, zx_getfield, zx_putfield, zx_getstatic, zx_iaload, zx_iastore, zx_laload, zx_lastore, zx_aaload, zx_arraylength, zx_goto, zx_ifCond, zx_if_icmp, zx_ifnull, zx_ifnonnull, zx_tableswitch, zx_lookupswitch, zx_ireturn, zx_lreturn, zx_areturn, zx_return_, zx_invokestatic, zx_invokevirtual, zi_ldi, zi_ldl, zi_lda, zi_sti, zi_stl, zi_sta, zi_inc, zi_b2, zi_d2, zi_l2, zi_dl2, zi_lc, zi_u1, zi_pp, zi_dup, zi_dup2, zi_gf, zi_pf, zi_ial, zi_ias, zi_lal, zi_las, zi_aal, zi_aln, zi_cp, zi_cmp, zi_if, zi_ic, zi_nul, zi_nnl, zi_sw, zi_ri, zi_rl, zi_ra, zi_rv, zi_iv, zi_ivr, zi_st1, zi_st2, zq_get0, zq_getS, zq_getN, zq_put0, zq_putS, zq_putN0, zq_putNS, zq_kl0, zq_klS, zq_Ln, zq_Li, zq_Lr, zq_Lf, zq_Lz, zq_Ll, zq_ft0, zq_fti, zq_ftr, zq_ftz, zq_ftf, zq_ftl, zq_pop0, zq_popS, zq_la0, zq_lai, zq_lar, zq_laz, zq_laf, zq_lal, zq_sh0, zq_sh1, zq_sh2, zq_sh3, zq_sh4, zq_f0, zq_f1, zq_f2, zq_f3, zq_u0, zq_u1, zq_u2, zq_ro0, zq_ro1, zq_ro2, zq_fv0, zq_fv2, zq_rfs, zq_rfn, zq_gD0, zq_gDS, zq_gDN, zq_lk0, zq_lkS, zq_tb0, zq_tbS, zq_o0, zq_o1, zq_o2, zq_o98, zq_o99, zq_o100, zq_o105, zq_o107, zq_o112, zq_o115, zq_o116, zq_c0, zq_c1, zq_v0, zq_v1, decide_eq_true_eq, List.toList_toArray, if_true, if_false, ite_self, and_true, true_and, and_false, false_and, true_or, or_true, or_false, false_or, not_true_eq_false, not_false_eq_true, Bool.false_eq_true, reduceCtorEq, ne_eq, ite_not, eq_self, Prod.mk.injEq, Nat.reduceEqDiff, Nat.reduceSub, Nat.reduceAdd, Nat.reduceLT, Nat.reduceLeDiff, zb_33_4, zc_33_4, zc_33_2, c1]
    all_goals exact hK J (fun _ _ => rfl) hu
  | succ d ih =>
    intro t J tl ht hl hu hK
    have c1 : ¬ (30 : Int32) ≤ nI (t + 5) := by (simp only [zt_eq, Int32.lt_iff_toInt_lt, Int32.le_iff_toInt_le, zt_add, zt_sub, zt_neg, zt_nI, zl_0, zl_1, zl_2, zl_3, zl_4, zl_5, zl_6, zl_7, zl_8, zl_9, zl_10, zl_16, zl_20, zl_30, zl_60, zl_1080, zl_m1, zl_m2, zl_m9]; omega)
    have e1 : (nI (t + 5)).toNatClampNeg = t + 5 := nI_clamp (by omega)
    have v1 : zi_vin (nI (t + 5)) 30 = true := zv_nI (by omega) (by omega)
    obtain ⟨f1, f2⟩ := hpt (t + 5) (by omega)
    have hpu := zpu_le (t + 5)
    have hpm := zpm_le (t + 5)
    have hlu := fun (K : Option Value → zi_M → Prop) (M : zi_M) => s_x_loopsUpon (sc := sc) (K := K) (M := M) (b := a) (u := zpu (t + 5)) (m := zpm (t + 5)) (by omega) (by omega) (by omega)
    have hz := zco_le a (zpu (t + 5)) (zpm (t + 5))
    have hat : ∀ v, (zWp l a acc (t + 1)).getD v 0 = if 0 < zco a (zpu (t + 5)) (zpm (t + 5)) ∧ v = zco a (zpu (t + 5)) (zpm (t + 5)) then (zWp l a acc t).getD v 0 + l.getD a 0 else (zWp l a acc t).getD v 0 := fun v => by rw [zWp_s]; exact zW1_at _ _ _ _ _ (by rw [zWp_len]; exact hlen)
    generalize zco a (zpu (t + 5)) (zpm (t + 5)) = z at hlu hz hat
    by_cases c : 0 < z
    · have c2 : ¬ nI z ≤ 0 := by (simp only [zt_eq, Int32.lt_iff_toInt_lt, Int32.le_iff_toInt_le, zt_add, zt_sub, zt_neg, zt_nI, zl_0, zl_1, zl_2, zl_3, zl_4, zl_5, zl_6, zl_7, zl_8, zl_9, zl_10, zl_16, zl_20, zl_30, zl_60, zl_1080, zl_m1, zl_m2, zl_m9]; omega)
      have e2 : (nI z).toNatClampNeg = z := nI_clamp (by omega)
      have v2 : zi_vin (nI z) 61 = true := zv_nI (by omega) (by omega)
      have g := hu z (by omega)
      have ih2 := ih (t + 1) (zi_up J T z (lN ((zWp l a acc t).getD z 0 + l.getD a 0))) [some (.int (nI z))] (by omega) (Or.inr ⟨_, rfl⟩) (fun v hv => by
        rw [zu_upJ, if_pos rfl, hat]
        by_cases e : v = z
        · rw [if_pos e, if_pos ⟨c, e⟩, e]
        · rw [if_neg e, if_neg (fun q => e q.2)]; exact hu v hv) (fun J' b1 b2 => hK J' (fun b hb => by rw [b1 b hb, zu_up_ne _ hb]) b2)
      simp only [List.cons_append, List.nil_append] at ih2
      rw [zb_33_2]
      rcases hl with rfl | ⟨x, rfl⟩
      all_goals simp only [List.append_nil, List.cons_append, List.nil_append]
      all_goals simp only [zi_wp_c, zi_wK_if, zi_wK_go, zi_wK_no, zi_wK_b, zi_wK_r, zi_wK_c, zi_cc_i, zi_cc_n, zi_B_if, zi_ifF, zx_nop, zx_iconst, zx_bipush, zx_sipush, zx_lconst, zx_ldc2_w, zx_aconst_null, zx_iload, zx_iload_n, zx_lload, zx_lload_n, zx_aload, zx_aload_n, zx_istore, zx_istore_n, zx_lstore, zx_lstore_n, zx_astore, zx_astore_n, zx_iinc, zx_iadd, zx_isub, zx_imul, zx_iand, zx_ior, zx_ishl, zx_ishr, zx_idiv, zx_irem, zx_ladd, zx_ldiv, zx_lrem, zx_lcmp, zx_i2l, zx_i2b, zx_i2s, zx_pop, zx_dup, zx_dup2, zx_getfield, zx_putfield, zx_getstatic, zx_iaload, zx_iastore, zx_laload, zx_lastore, zx_aaload, zx_arraylength, zx_goto, zx_ifCond, zx_if_icmp, zx_ifnull, zx_ifnonnull, zx_tableswitch, zx_lookupswitch, zx_ireturn, zx_lreturn, zx_areturn, zx_return_, zx_invokestatic, zx_invokevirtual, zi_ldi, zi_ldl, zi_lda, zi_sti, zi_stl, zi_sta, zi_inc, zi_b2, zi_d2, zi_l2, zi_dl2, zi_lc, zi_u1, zi_pp, zi_dup, zi_dup2, zi_gf, zi_pf, zi_ial, zi_ias, zi_lal, zi_las, zi_aal, zi_aln, zi_cp, zi_cmp, zi_if, zi_ic, zi_nul, zi_nnl, zi_sw, zi_ri, zi_rl, zi_ra, zi_rv, zi_iv, zi_ivr, zi_st1, zi_st2, zq_get0, zq_getS, zq_getN, zq_put0, zq_putS, zq_putN0, zq_putNS, zq_kl0, zq_klS, zq_Ln, zq_Li, zq_Lr, zq_Lf, zq_Lz, zq_Ll, zq_ft0, zq_fti, zq_ftr, zq_ftz, zq_ftf, zq_ftl, zq_pop0, zq_popS, zq_la0, zq_lai, zq_lar, zq_laz, zq_laf, zq_lal, zq_sh0, zq_sh1, zq_sh2, zq_sh3, zq_sh4, zq_f0, zq_f1, zq_f2, zq_f3, zq_u0, zq_u1, zq_u2, zq_ro0, zq_ro1, zq_ro2, zq_fv0, zq_fv2, zq_rfs, zq_rfn, zq_gD0, zq_gDS, zq_gDN, zq_lk0, zq_lkS, zq_tb0, zq_tbS, zq_o0, zq_o1, zq_o2, zq_o98, zq_o99, zq_o100, zq_o105, zq_o107, zq_o112, zq_o115, zq_o116, zq_c0, zq_c1, zq_v0, zq_v1, decide_eq_true_eq, List.toList_toArray, if_true, if_false, ite_self, and_true, true_and, and_false, false_and, true_or, or_true, or_false, false_or, not_true_eq_false, not_false_eq_true, Bool.false_eq_true, reduceCtorEq, ne_eq, ite_not, eq_self, Prod.mk.injEq, Nat.reduceEqDiff, Nat.reduceSub, Nat.reduceAdd, Nat.reduceLT, Nat.reduceLeDiff, zb_33_3, zc_33_3, zmt_0, zmt_1, zmt_2, zmt_3, zmt_16, zmt_17, zmt_30, zmt_31, zmt_32, zmt_45, zmt_46, zmt_54, zmt_62, zmt_70, zmt_78, zmt_86, zmt_87, zmt_88, zmt_89, zmt_90, zmt_91, zmt_92, zmt_93, zmt_94, zmt_95, zmt_96, zrc_0_0, zrc_0_1, zrc_0_2, zrc_0_3, zrc_0_4, zrc_0_5, zrc_0_6, zrc_2_3, zrc_16_3, zrc_30_0, zrc_31_3, zrc_45_0, zrc_45_1, zrc_45_2, zrc_45_3, zrc_45_4, zrc_86_1, zrc_86_2, zrc_89_0, zrc_89_1, zrc_89_4, zrc_89_5, zrc_89_6, zrc_89_7, zrc_89_8, zc_33_2, c1, e1, v1, f1, f2, hlu, c2, hT, e2, v2, g, lN_add, nI_1]
      all_goals exact ih2
    · have c2 : nI z ≤ 0 := by (simp only [zt_eq, Int32.lt_iff_toInt_lt, Int32.le_iff_toInt_le, zt_add, zt_sub, zt_neg, zt_nI, zl_0, zl_1, zl_2, zl_3, zl_4, zl_5, zl_6, zl_7, zl_8, zl_9, zl_10, zl_16, zl_20, zl_30, zl_60, zl_1080, zl_m1, zl_m2, zl_m9]; omega)
      have ih2 := ih (t + 1) J [some (.int (nI z))] (by omega) (Or.inr ⟨_, rfl⟩) (fun v hv => by
        rw [hat, if_neg (fun q => c q.1)]; exact hu v hv) hK
      simp only [List.cons_append, List.nil_append] at ih2
      rw [zb_33_2]
      rcases hl with rfl | ⟨x, rfl⟩
      all_goals simp only [List.append_nil, List.cons_append, List.nil_append]
      all_goals simp only [zi_wp_c, zi_wK_if, zi_wK_go, zi_wK_no, zi_wK_b, zi_wK_r, zi_wK_c, zi_cc_i, zi_cc_n, zi_B_if, zi_ifF, zx_nop, zx_iconst, zx_bipush, zx_sipush, zx_lconst, zx_ldc2_w, zx_aconst_null, zx_iload, zx_iload_n, zx_lload, zx_lload_n, zx_aload, zx_aload_n, zx_istore, zx_istore_n, zx_lstore, zx_lstore_n, zx_astore, zx_astore_n, zx_iinc, zx_iadd, zx_isub, zx_imul, zx_iand, zx_ior, zx_ishl, zx_ishr, zx_idiv, zx_irem, zx_ladd, zx_ldiv, zx_lrem, zx_lcmp, zx_i2l, zx_i2b, zx_i2s, zx_pop, zx_dup, zx_dup2, zx_getfield, zx_putfield, zx_getstatic, zx_iaload, zx_iastore, zx_laload, zx_lastore, zx_aaload, zx_arraylength, zx_goto, zx_ifCond, zx_if_icmp, zx_ifnull, zx_ifnonnull, zx_tableswitch, zx_lookupswitch, zx_ireturn, zx_lreturn, zx_areturn, zx_return_, zx_invokestatic, zx_invokevirtual, zi_ldi, zi_ldl, zi_lda, zi_sti, zi_stl, zi_sta, zi_inc, zi_b2, zi_d2, zi_l2, zi_dl2, zi_lc, zi_u1, zi_pp, zi_dup, zi_dup2, zi_gf, zi_pf, zi_ial, zi_ias, zi_lal, zi_las, zi_aal, zi_aln, zi_cp, zi_cmp, zi_if, zi_ic, zi_nul, zi_nnl, zi_sw, zi_ri, zi_rl, zi_ra, zi_rv, zi_iv, zi_ivr, zi_st1, zi_st2, zq_get0, zq_getS, zq_getN, zq_put0, zq_putS, zq_putN0, zq_putNS, zq_kl0, zq_klS, zq_Ln, zq_Li, zq_Lr, zq_Lf, zq_Lz, zq_Ll, zq_ft0, zq_fti, zq_ftr, zq_ftz, zq_ftf, zq_ftl, zq_pop0, zq_popS, zq_la0, zq_lai, zq_lar, zq_laz, zq_laf, zq_lal, zq_sh0, zq_sh1, zq_sh2, zq_sh3, zq_sh4, zq_f0, zq_f1, zq_f2, zq_f3, zq_u0, zq_u1, zq_u2, zq_ro0, zq_ro1, zq_ro2, zq_fv0, zq_fv2, zq_rfs, zq_rfn, zq_gD0, zq_gDS, zq_gDN, zq_lk0, zq_lkS, zq_tb0, zq_tbS, zq_o0, zq_o1, zq_o2, zq_o98, zq_o99, zq_o100, zq_o105, zq_o107, zq_o112, zq_o115, zq_o116, zq_c0, zq_c1, zq_v0, zq_v1, decide_eq_true_eq, List.toList_toArray, if_true, if_false, ite_self, and_true, true_and, and_false, false_and, true_or, or_true, or_false, false_or, not_true_eq_false, not_false_eq_true, Bool.false_eq_true, reduceCtorEq, ne_eq, ite_not, eq_self, Prod.mk.injEq, Nat.reduceEqDiff, Nat.reduceSub, Nat.reduceAdd, Nat.reduceLT, Nat.reduceLeDiff, zb_33_3, zc_33_3, zmt_0, zmt_1, zmt_2, zmt_3, zmt_16, zmt_17, zmt_30, zmt_31, zmt_32, zmt_45, zmt_46, zmt_54, zmt_62, zmt_70, zmt_78, zmt_86, zmt_87, zmt_88, zmt_89, zmt_90, zmt_91, zmt_92, zmt_93, zmt_94, zmt_95, zmt_96, zrc_0_0, zrc_0_1, zrc_0_2, zrc_0_3, zrc_0_4, zrc_0_5, zrc_0_6, zrc_2_3, zrc_16_3, zrc_30_0, zrc_31_3, zrc_45_0, zrc_45_1, zrc_45_2, zrc_45_3, zrc_45_4, zrc_86_1, zrc_86_2, zrc_89_0, zrc_89_1, zrc_89_4, zrc_89_5, zrc_89_6, zrc_89_7, zrc_89_8, zc_33_2, c1, e1, v1, f1, f2, hlu, c2, nI_1]
      all_goals exact ih2
theorem s_N_aw {T a : Nat} {l acc : List Nat} {J : Nat → Nat → Int64} (hpt : zPt I) (hT : zMT T = (2, 1, 61)) (ha : a ≤ 60) (hlen : acc.length = 61) (hu : ∀ v, v < 61 → J T v = lN (acc.getD v 0)) (hK : ∀ J', (∀ b, b ≠ T → J' b = J b) → (∀ v, v < 61 → J' T v = lN ((zW2 l acc a).getD v 0)) → K none (zm I J')) : zi_B sc 0 0 33 0 [some (.ref 89), some (.long (lN (l.getD a 0))), none, some (.int (nI a)), some (.ref T)] [] (zm I J) K := by
  by_cases c : lN (l.getD a 0) = 0
  · have h := hK J (fun _ _ => rfl) (fun v hv => by rw [zW2_p, zWp_no l a acc hlen c v 25]; exact hu v hv)
    have e : lg_cmp (lN (l.getD a 0)) 0 = 0 := by rw [c]; decide
    rw [zb_33_0]
    simp only [zi_wp_c, zi_wK_if, zi_wK_go, zi_wK_no, zi_wK_b, zi_wK_r, zi_wK_c, zi_cc_i, zi_cc_n, zi_B_if, zi_ifF, zx_nop, zx_iconst, zx_bipush, zx_sipush, zx_lconst, zx_ldc2_w, zx_aconst_null, zx_iload, zx_iload_n, zx_lload, zx_lload_n, zx_aload, zx_aload_n, zx_istore, zx_istore_n, zx_lstore, zx_lstore_n, zx_astore, zx_astore_n, zx_iinc, zx_iadd, zx_isub, zx_imul, zx_iand, zx_ior, zx_ishl, zx_ishr, zx_idiv, zx_irem, zx_ladd, zx_ldiv, zx_lrem, zx_lcmp, zx_i2l, zx_i2b, zx_i2s, zx_pop, zx_dup, zx_dup2, zx_getfield, zx_putfield, zx_getstatic, zx_iaload, zx_iastore, zx_laload, zx_lastore, zx_aaload, zx_arraylength, zx_goto, zx_ifCond, zx_if_icmp, zx_ifnull, zx_ifnonnull, zx_tableswitch, zx_lookupswitch, zx_ireturn, zx_lreturn, zx_areturn, zx_return_, zx_invokestatic, zx_invokevirtual, zi_ldi, zi_ldl, zi_lda, zi_sti, zi_stl, zi_sta, zi_inc, zi_b2, zi_d2, zi_l2, zi_dl2, zi_lc, zi_u1, zi_pp, zi_dup, zi_dup2, zi_gf, zi_pf, zi_ial, zi_ias, zi_lal, zi_las, zi_aal, zi_aln, zi_cp, zi_cmp, zi_if, zi_ic, zi_nul, zi_nnl, zi_sw, zi_ri, zi_rl, zi_ra, zi_rv, zi_iv, zi_ivr, zi_st1, zi_st2, zq_get0, zq_getS, zq_getN, zq_put0, zq_putS, zq_putN0, zq_putNS, zq_kl0, zq_klS, zq_Ln, zq_Li, zq_Lr, zq_Lf, zq_Lz, zq_Ll, zq_ft0, zq_fti, zq_ftr, zq_ftz, zq_ftf, zq_ftl, zq_pop0, zq_popS, zq_la0, zq_lai, zq_lar, zq_laz, zq_laf, zq_lal, zq_sh0, zq_sh1, zq_sh2, zq_sh3, zq_sh4, zq_f0, zq_f1, zq_f2, zq_f3, zq_u0, zq_u1, zq_u2, zq_ro0, zq_ro1, zq_ro2, zq_fv0, zq_fv2, zq_rfs, zq_rfn, zq_gD0, zq_gDS, zq_gDN, zq_lk0, zq_lkS, zq_tb0, zq_tbS, zq_o0, zq_o1, zq_o2, zq_o98, zq_o99, zq_o100, zq_o105, zq_o107, zq_o112, zq_o115, zq_o116, zq_c0, zq_c1, zq_v0, zq_v1, decide_eq_true_eq, List.toList_toArray, if_true, if_false, ite_self, and_true, true_and, and_false, false_and, true_or, or_true, or_false, false_or, not_true_eq_false, not_false_eq_true, Bool.false_eq_true, reduceCtorEq, ne_eq, ite_not, eq_self, Prod.mk.injEq, Nat.reduceEqDiff, Nat.reduceSub, Nat.reduceAdd, Nat.reduceLT, Nat.reduceLeDiff, zc_33_0, zq_L0, e]
    exact h
  · have e := zlg_ne c
    have key := l_N_aw (sc := sc) (I := I) (K := K) (l := l) hpt hT ha hlen 25 0 J [] (by omega) (Or.inl rfl) hu (fun J' b1 b2 => hK J' b1 b2)
    simp only [List.append_nil] at key
    rw [show nI (0 + 5) = 5 from rfl] at key
    rw [zb_33_0]
    simp only [zi_wp_c, zi_wK_if, zi_wK_go, zi_wK_no, zi_wK_b, zi_wK_r, zi_wK_c, zi_cc_i, zi_cc_n, zi_B_if, zi_ifF, zx_nop, zx_iconst, zx_bipush, zx_sipush, zx_lconst, zx_ldc2_w, zx_aconst_null, zx_iload, zx_iload_n, zx_lload, zx_lload_n, zx_aload, zx_aload_n, zx_istore, zx_istore_n, zx_lstore, zx_lstore_n, zx_astore, zx_astore_n, zx_iinc, zx_iadd, zx_isub, zx_imul, zx_iand, zx_ior, zx_ishl, zx_ishr, zx_idiv, zx_irem, zx_ladd, zx_ldiv, zx_lrem, zx_lcmp, zx_i2l, zx_i2b, zx_i2s, zx_pop, zx_dup, zx_dup2, zx_getfield, zx_putfield, zx_getstatic, zx_iaload, zx_iastore, zx_laload, zx_lastore, zx_aaload, zx_arraylength, zx_goto, zx_ifCond, zx_if_icmp, zx_ifnull, zx_ifnonnull, zx_tableswitch, zx_lookupswitch, zx_ireturn, zx_lreturn, zx_areturn, zx_return_, zx_invokestatic, zx_invokevirtual, zi_ldi, zi_ldl, zi_lda, zi_sti, zi_stl, zi_sta, zi_inc, zi_b2, zi_d2, zi_l2, zi_dl2, zi_lc, zi_u1, zi_pp, zi_dup, zi_dup2, zi_gf, zi_pf, zi_ial, zi_ias, zi_lal, zi_las, zi_aal, zi_aln, zi_cp, zi_cmp, zi_if, zi_ic, zi_nul, zi_nnl, zi_sw, zi_ri, zi_rl, zi_ra, zi_rv, zi_iv, zi_ivr, zi_st1, zi_st2, zq_get0, zq_getS, zq_getN, zq_put0, zq_putS, zq_putN0, zq_putNS, zq_kl0, zq_klS, zq_Ln, zq_Li, zq_Lr, zq_Lf, zq_Lz, zq_Ll, zq_ft0, zq_fti, zq_ftr, zq_ftz, zq_ftf, zq_ftl, zq_pop0, zq_popS, zq_la0, zq_lai, zq_lar, zq_laz, zq_laf, zq_lal, zq_sh0, zq_sh1, zq_sh2, zq_sh3, zq_sh4, zq_f0, zq_f1, zq_f2, zq_f3, zq_u0, zq_u1, zq_u2, zq_ro0, zq_ro1, zq_ro2, zq_fv0, zq_fv2, zq_rfs, zq_rfn, zq_gD0, zq_gDS, zq_gDN, zq_lk0, zq_lkS, zq_tb0, zq_tbS, zq_o0, zq_o1, zq_o2, zq_o98, zq_o99, zq_o100, zq_o105, zq_o107, zq_o112, zq_o115, zq_o116, zq_c0, zq_c1, zq_v0, zq_v1, decide_eq_true_eq, List.toList_toArray, if_true, if_false, ite_self, and_true, true_and, and_false, false_and, true_or, or_true, or_false, false_or, not_true_eq_false, not_false_eq_true, Bool.false_eq_true, reduceCtorEq, ne_eq, ite_not, eq_self, Prod.mk.injEq, Nat.reduceEqDiff, Nat.reduceSub, Nat.reduceAdd, Nat.reduceLT, Nat.reduceLeDiff, zb_33_1, zc_33_1, zc_33_0, zq_L0, e]
    exact key
end ZWX
