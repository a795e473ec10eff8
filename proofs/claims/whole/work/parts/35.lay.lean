/-! x's layout -/
theorem zL_row : ∀ r, r < 7 → (zRC 46 r = some (47 + r) ∧ zRC 54 r = some (55 + r) ∧ zRC 62 r = some (63 + r) ∧ zRC 70 r = some (71 + r) ∧ zRC 78 r = some (79 + r)) ∧ (zMT (47 + r) = (1, 0, 60) ∧ zMT (55 + r) = (1, 0, 60) ∧ zMT (63 + r) = (1, 0, 60) ∧ zMT (71 + r) = (1, 0, 60) ∧ zMT (79 + r) = (1, 0, 60))
  | 0, _ => ⟨⟨rfl, rfl, rfl, rfl, rfl⟩, rfl, rfl, rfl, rfl, rfl⟩
  | 1, _ => ⟨⟨rfl, rfl, rfl, rfl, rfl⟩, rfl, rfl, rfl, rfl, rfl⟩
  | 2, _ => ⟨⟨rfl, rfl, rfl, rfl, rfl⟩, rfl, rfl, rfl, rfl, rfl⟩
  | 3, _ => ⟨⟨rfl, rfl, rfl, rfl, rfl⟩, rfl, rfl, rfl, rfl, rfl⟩
  | 4, _ => ⟨⟨rfl, rfl, rfl, rfl, rfl⟩, rfl, rfl, rfl, rfl, rfl⟩
  | 5, _ => ⟨⟨rfl, rfl, rfl, rfl, rfl⟩, rfl, rfl, rfl, rfl, rfl⟩
  | 6, _ => ⟨⟨rfl, rfl, rfl, rfl, rfl⟩, rfl, rfl, rfl, rfl, rfl⟩
section ZY
variable {sc : Nat × (Nat → Int32)} {J : Nat → Nat → Int64} {K : Option Value → zi_M → Prop}
theorem l_L_loop {s k g u v : Nat} {I0 : Nat → Nat → Int32} (hs : s < 6) (hk : k < 60) (hv : v ≤ 60) (huv : u ≤ v) : ∀ d b (I : Nat → Nat → Int32), b + d = v → u ≤ b → (∀ a, a ≠ 79 + s → a ≠ 72 + s → I a = I0 a) → (∀ j, I (79 + s) j = if u ≤ j ∧ j < b then I0 (79 + s) j + 1 else I0 (79 + s) j) → (∀ j, I (72 + s) j = if j = k then zor (I0 (71 + s)) u (b - u) else I0 (72 + s) j) →
    (∀ I', (∀ a, a ≠ 79 + s → a ≠ 72 + s → I' a = I0 a) → (∀ j, I' (79 + s) j = if u ≤ j ∧ j < v then I0 (79 + s) j + 1 else I0 (79 + s) j) → (∀ j, I' (72 + s) j = if j = k then zor (I0 (71 + s)) u (v - u) else I0 (72 + s) j) → K none (zm I' J)) →
    zi_B sc 0 0 14 7 [some (.ref 45), some (.int (nI (s + 1))), some (.int (nI k)), some (.int (nI g)), some (.int (nI u)), some (.int (nI v)), some (.int (nI b))] [] (zm I J) K := by
  obtain ⟨⟨-, -, -, ra, rb⟩, -, -, -, ma, mb⟩ := zL_row s (by omega)
  obtain ⟨⟨-, -, -, rc, -⟩, -, -, -, mc, -⟩ := zL_row (s + 1) (by omega)
  rw [show 71 + (s + 1) = 72 + s by omega] at rc mc
  have es : nI (s + 1) - 1 = nI s := zn_sub s 1
  have e1 : (nI (s + 1)).toNatClampNeg = s + 1 := nI_clamp (by omega)
  have e2 : (nI s).toNatClampNeg = s := nI_clamp (by omega)
  have e3 : (nI k).toNatClampNeg = k := nI_clamp (by omega)
  have v1 : zi_vin (nI (s + 1)) 7 = true := zv_nI (by omega) (by omega)
  have v2 : zi_vin (nI s) 7 = true := zv_nI (by omega) (by omega)
  have v3 : zi_vin (nI k) 60 = true := zv_nI (by omega) (by omega)
  intro d
  induction d with
  | zero =>
    intro b I hb hu h1 h2 h3 hK
    have : b = v := by omega
    subst this
    have c1 : nI b ≤ nI b := by (simp only [zt_eq, Int32.lt_iff_toInt_lt, Int32.le_iff_toInt_le, zt_add, zt_sub, zt_neg, zt_nI, zl_0, zl_1, zl_2, zl_3, zl_4, zl_5, zl_6, zl_7, zl_8, zl_9, zl_10, zl_16, zl_20, zl_30, zl_60, zl_1080, zl_m1, zl_m2, zl_m9]; omega)
    rw [zb_14_7]
    simp only [zi_wp_c, zi_wK_if, zi_wK_go, zi_wK_no, zi_wK_b, zi_wK_r, zi_wK_c, zi_cc_i, zi_cc_n, zi_B_if, zi_ifF, zx_nop, zx_iconst, zx_bipush, zx_sipush, zx_lconst, zx_ldc2_w, zx_aconst_null, zx_iload, zx_iload_n, zx_lload, zx_lload_n, zx_aload, zx_aload_n, zx_istore, zx_istore_n, zx_lstore, zx_lstore_n, zx_astore, zx_astore_n, zx_iinc, zx_iadd, zx_isub, zx_imul, zx_iand, zx_ior, zx_ishl, zx_ishr, zx_idiv, zx_irem, zx_ladd, zx_ldiv, zx_lrem, zx_lcmp, zx_i2l, zx_i2b, zx_i2s, zx_pop, zx_dup, zx_dup2, zx_getfield, zx_putfield, zx_getstatic, zx_iaload, zx_iastore, zx_laload, zx_lastore, zx_aaload, zx_arraylength, zx_goto, zx_ifCond, zx_if_icmp, zx_ifnull, zx_ifnonnull, zx_tableswitch, zx_lookupswitch, zx_ireturn, zx_lreturn, zx_areturn, zx_return_, zx_invokestatic, zx_invokevirtual, zi_ldi, zi_ldl, zi_lda, zi_sti, zi_stl, zi_sta, zi_inc, zi_b2, zi_d2, zi_l2, zi_dl2, zi_lc, zi_u1, zi_pp, zi_dup, zi_dup2, zi_gf, zi_pf, zi_ial, zi_ias, zi_lal, zi_las, zi_aal, zi_aln, zi_cp, zi_cmp, zi_if, zi_ic, zi_nul, zi_nnl, zi_sw, zi_ri, zi_rl, zi_ra, zi_rv, zi_iv, zi_ivr, zi_st1, zi_st2, zq_get0, zq_getS, zq_getN, zq_put0, zq_putS, zq_putN0, zq_putNS, zq_kl0, zq_klS, zq_Ln, zq_Li, zq_Lr, zq_Lf, zq_Lz, zq_Ll, zq_ft0, zq_fti, zq_ftr, zq_ftz, zq_ftf, zq_ftl, zq_pop0, zq_popS, zq_la0, zq_lai, zq_lar, zq_laz, zq_laf, zq_lal, zq_sh0, zq_sh1, zq_sh2, zq_sh3, zq_sh4, zq_f0, zq_f1, zq_f2, zq_f3, zq_u0, zq_u1, zq_u2, zq_ro0, zq_ro1, zq_ro2, zq_fv0, zq_fv2, zq_rfs, zq_rfn, zq_gD0, zq_gDS, zq_gDN, zq_lk0, zq_lkS, zq_tb0, zq_tbS, zq_o0, zq_o1, zq_o2, zq_o98, zq_o99, zq_o100, zq_o105, zq_o107, zq_o112, zq_o115, zq_o116, zq_c0, zq_c1, zq_v0, zq_v1, decide_eq_true_eq, List.toList_toArray, if_true, if_false, ite_self, and_true, true_and, and_false, false_and, true_or, or_true, or_false, false_or, not_true_eq_false, not_false_eq_true, Bool.false_eq_true, reduceCtorEq, ne_eq, ite_not, eq_self, Prod.mk.injEq, Nat.reduceEqDiff, Nat.reduceSub, Nat.reduceAdd, Nat.reduceLT, Nat.reduceLeDiff, zb_14_8, zc_14_8, zc_14_7, c1]
    exact hK I h1 h2 h3
  | succ d ih =>
    intro b I hb hu h1 h2 h3 hK
    have c1 : ¬ nI v ≤ nI b := by (simp only [zt_eq, Int32.lt_iff_toInt_lt, Int32.le_iff_toInt_le, zt_add, zt_sub, zt_neg, zt_nI, zl_0, zl_1, zl_2, zl_3, zl_4, zl_5, zl_6, zl_7, zl_8, zl_9, zl_10, zl_16, zl_20, zl_30, zl_60, zl_1080, zl_m1, zl_m2, zl_m9]; omega)
    have e4 : (nI b).toNatClampNeg = b := nI_clamp (by omega)
    have v4 : zi_vin (nI b) 60 = true := zv_nI (by omega) (by omega)
    rw [zb_14_7]
    simp only [zi_wp_c, zi_wK_if, zi_wK_go, zi_wK_no, zi_wK_b, zi_wK_r, zi_wK_c, zi_cc_i, zi_cc_n, zi_B_if, zi_ifF, zx_nop, zx_iconst, zx_bipush, zx_sipush, zx_lconst, zx_ldc2_w, zx_aconst_null, zx_iload, zx_iload_n, zx_lload, zx_lload_n, zx_aload, zx_aload_n, zx_istore, zx_istore_n, zx_lstore, zx_lstore_n, zx_astore, zx_astore_n, zx_iinc, zx_iadd, zx_isub, zx_imul, zx_iand, zx_ior, zx_ishl, zx_ishr, zx_idiv, zx_irem, zx_ladd, zx_ldiv, zx_lrem, zx_lcmp, zx_i2l, zx_i2b, zx_i2s, zx_pop, zx_dup, zx_dup2, zx_getfield, zx_putfield, zx_getstatic, zx_iaload, zx_iastore, zx_laload, zx_lastore, zx_aaload, zx_arraylength, zx_goto, zx_ifCond, zx_if_icmp, zx_ifnull, zx_ifnonnull, zx_tableswitch, zx_lookupswitch, zx_ireturn, zx_lreturn, zx_areturn, zx_return_, zx_invokestatic, zx_invokevirtual, zi_ldi, zi_ldl, zi_lda, zi_sti, zi_stl, zi_sta, zi_inc, zi_b2, zi_d2, zi_l2, zi_dl2, zi_lc, zi_u1, zi_pp, zi_dup, zi_dup2, zi_gf, zi_pf, zi_ial, zi_ias, zi_lal, zi_las, zi_aal, zi_aln, zi_cp, zi_cmp, zi_if, zi_ic, zi_nul, zi_nnl, zi_sw, zi_ri, zi_rl, zi_ra, zi_rv, zi_iv, zi_ivr, zi_st1, zi_st2, zq_get0, zq_getS, zq_getN, zq_put0, zq_putS, zq_putN0, zq_putNS, zq_kl0, zq_klS, zq_Ln, zq_Li, zq_Lr, zq_Lf, zq_Lz, zq_Ll, zq_ft0, zq_fti, zq_ftr, zq_ftz, zq_ftf, zq_ftl, zq_pop0, zq_popS, zq_la0, zq_lai, zq_lar, zq_laz, zq_laf, zq_lal, zq_sh0, zq_sh1, zq_sh2, zq_sh3, zq_sh4, zq_f0, zq_f1, zq_f2, zq_f3, zq_u0, zq_u1, zq_u2, zq_ro0, zq_ro1, zq_ro2, zq_fv0, zq_fv2, zq_rfs, zq_rfn, zq_gD0, zq_gDS, zq_gDN, zq_lk0, zq_lkS, zq_tb0, zq_tbS, zq_o0, zq_o1, zq_o2, zq_o98, zq_o99, zq_o100, zq_o105, zq_o107, zq_o112, zq_o115, zq_o116, zq_c0, zq_c1, zq_v0, zq_v1, decide_eq_true_eq, List.toList_toArray, if_true, if_false, ite_self, and_true, true_and, and_false, false_and, true_or, or_true, or_false, false_or, not_true_eq_false, not_false_eq_true, Bool.false_eq_true, reduceCtorEq, ne_eq, ite_not, eq_self, Prod.mk.injEq, Nat.reduceEqDiff, Nat.reduceSub, Nat.reduceAdd, Nat.reduceLT, Nat.reduceLeDiff, zmt_0, zmt_1, zmt_2, zmt_3, zmt_16, zmt_17, zmt_30, zmt_31, zmt_32, zmt_45, zmt_46, zmt_54, zmt_62, zmt_70, zmt_78, zmt_86, zmt_87, zmt_88, zmt_89, zmt_90, zmt_91, zmt_92, zmt_93, zmt_94, zmt_95, zmt_96, zrc_0_0, zrc_0_1, zrc_0_2, zrc_0_3, zrc_0_4, zrc_0_5, zrc_0_6, zrc_2_3, zrc_16_3, zrc_30_0, zrc_31_3, zrc_45_0, zrc_45_1, zrc_45_2, zrc_45_3, zrc_45_4, zrc_86_1, zrc_86_2, zrc_89_0, zrc_89_1, zrc_89_4, zrc_89_5, zrc_89_6, zrc_89_7, zrc_89_8, zc_14_7, c1, es, e1, e2, e3, e4, v1, v2, v3, v4, ra, rb, rc, ma, mb, mc, nI_1]
    have o1 : zi_up I (79 + s) b (I (79 + s) b + 1) (72 + s) = I (72 + s) := zu_up_ne _ (by omega)
    have o2 : zi_up I (79 + s) b (I (79 + s) b + 1) (71 + s) = I (71 + s) := zu_up_ne _ (by omega)
    rw [o1, o2]
    refine ih (b + 1) _ (by omega) (by omega) (fun a a1 a2 => ?_) (fun j => ?_) (fun j => ?_) hK
    · rw [zu_up_ne _ a2, zu_up_ne _ a1]
      exact h1 a a1 a2
    · rw [zu_up_ne _ (by omega), zu_up, if_pos rfl]
      by_cases e : j = b
      · subst e
        rw [if_pos rfl, if_pos (by omega), h2, if_neg (by omega)]
      · rw [if_neg e, h2]
        by_cases c : u ≤ j ∧ j < b
        · rw [if_pos c, if_pos (by omega)]
        · rw [if_neg c, if_neg (by omega)]
    · rw [zu_up, if_pos rfl]
      by_cases e : j = k
      · subst e
        rw [if_pos rfl, if_pos rfl, h3, if_pos rfl, h1 (71 + s) (by omega) (by omega), show b + 1 - u = (b - u) + 1 by omega]
        simp only [zor]
        rw [show u + (b - u) = b by omega]
      · rw [if_neg e, if_neg e, o1, h3, if_neg e]
theorem g_L_loop {s k g u : Nat} {I : Nat → Nat → Int32} {X Y : Int32} (hs : s < 6) (hk : k < 60) (hv : u + zusN g ≤ 60)
    (hK : ∀ I', (∀ a, a ≠ 79 + s → a ≠ 72 + s → a ≠ 48 + s → a ≠ 56 + s → a ≠ 64 + s → I' a = I a) → (∀ j, j ≠ k → I' (48 + s) j = I (48 + s) j ∧ I' (56 + s) j = I (56 + s) j ∧ I' (64 + s) j = I (64 + s) j ∧ I' (72 + s) j = I (72 + s) j) →
      (I' (48 + s) k = nI g ∧ I' (56 + s) k = X ∧ I' (64 + s) k = Y ∧ I' (72 + s) k = zor (I (71 + s)) u (zusN g)) →
      (∀ j, I' (79 + s) j = if u ≤ j ∧ j < u + zusN g then I (79 + s) j + 1 else I (79 + s) j) → K none (zm I' J)) :
    zi_B sc 0 0 14 7 [some (.ref 45), some (.int (nI (s + 1))), some (.int (nI k)), some (.int (nI g)), some (.int (nI u)), some (.int (nI (u + zusN g))), some (.int (nI u))] [] (zm (zi_up (zi_up (zi_up (zi_up I (48 + s) k (nI g)) (56 + s) k X) (64 + s) k Y) (72 + s) k 0) J) K := by
  have q1 : ∀ a, a ≠ 72 + s → a ≠ 48 + s → a ≠ 56 + s → a ≠ 64 + s → zi_up (zi_up (zi_up (zi_up I (48 + s) k (nI g)) (56 + s) k X) (64 + s) k Y) (72 + s) k 0 a = I a := fun a a1 a2 a3 a4 => by rw [zu_up_ne _ a1, zu_up_ne _ a4, zu_up_ne _ a3, zu_up_ne _ a2]
  have q2 : ∀ j, zi_up (zi_up (zi_up (zi_up I (48 + s) k (nI g)) (56 + s) k X) (64 + s) k Y) (72 + s) k 0 (48 + s) j = if j = k then nI g else I (48 + s) j := fun j => by rw [zu_up_ne _ (by omega), zu_up_ne _ (by omega), zu_up_ne _ (by omega), zu_up, if_pos rfl]
  have q3 : ∀ j, zi_up (zi_up (zi_up (zi_up I (48 + s) k (nI g)) (56 + s) k X) (64 + s) k Y) (72 + s) k 0 (56 + s) j = if j = k then X else I (56 + s) j := fun j => by rw [zu_up_ne _ (by omega), zu_up_ne _ (by omega), zu_up, if_pos rfl, zu_up_ne _ (by omega)]
  have q4 : ∀ j, zi_up (zi_up (zi_up (zi_up I (48 + s) k (nI g)) (56 + s) k X) (64 + s) k Y) (72 + s) k 0 (64 + s) j = if j = k then Y else I (64 + s) j := fun j => by rw [zu_up_ne _ (by omega), zu_up, if_pos rfl, zu_up_ne _ (by omega), zu_up_ne _ (by omega)]
  have q5 : ∀ j, zi_up (zi_up (zi_up (zi_up I (48 + s) k (nI g)) (56 + s) k X) (64 + s) k Y) (72 + s) k 0 (72 + s) j = if j = k then 0 else I (72 + s) j := fun j => by rw [zu_up, if_pos rfl, zu_up_ne _ (by omega), zu_up_ne _ (by omega), zu_up_ne _ (by omega)]
  generalize zi_up (zi_up (zi_up (zi_up I (48 + s) k (nI g)) (56 + s) k X) (64 + s) k Y) (72 + s) k 0 = I4 at q1 q2 q3 q4 q5
  refine l_L_loop (I0 := I4) hs hk hv (by omega) (zusN g) u _ (by omega) (Nat.le_refl _) (fun a a1 a2 => rfl) (fun j => by rw [if_neg (by omega)]) (fun j => ?_) (fun I' b1 b2 b3 => hK I' (fun a a1 a2 a3 a4 a5 => ?_) (fun j hj => ?_) ⟨?_, ?_, ?_, ?_⟩ (fun j => ?_))
  · rw [Nat.sub_self]
    by_cases e : j = k
    · rw [if_pos e, q5, if_pos e]; rfl
    · rw [if_neg e]
  · rw [b1 a a1 a2, q1 a a2 a3 a4 a5]
  · rw [b1 _ (by omega) (by omega), b1 _ (by omega) (by omega), b1 _ (by omega) (by omega), b3, q2, q3, q4, q5, if_neg hj, if_neg hj, if_neg hj, if_neg hj, if_neg hj]
    exact ⟨rfl, rfl, rfl, rfl⟩
  · rw [b1 _ (by omega) (by omega), q2, if_pos rfl]
  · rw [b1 _ (by omega) (by omega), q3, if_pos rfl]
  · rw [b1 _ (by omega) (by omega), q4, if_pos rfl]
  · rw [b3, if_pos rfl, q1 (71 + s) (by omega) (by omega) (by omega) (by omega), show u + zusN g - u = zusN g by omega]
  · rw [b2, q1 (79 + s) (by omega) (by omega) (by omega) (by omega)]
theorem s_L_loop {s k g u : Nat} {I : Nat → Nat → Int32} (hs : s < 6) (hk : k < 60) (hg : g < 5) (hv : u + zusN g ≤ 60)
    (hK : ∀ I', (∀ a, a ≠ 79 + s → a ≠ 72 + s → a ≠ 48 + s → a ≠ 56 + s → a ≠ 64 + s → I' a = I a) → (∀ j, j ≠ k → I' (48 + s) j = I (48 + s) j ∧ I' (56 + s) j = I (56 + s) j ∧ I' (64 + s) j = I (64 + s) j ∧ I' (72 + s) j = I (72 + s) j) →
      (I' (48 + s) k = nI g ∧ I' (56 + s) k = (if zusN g = 0 then -9 else nI u) ∧ I' (64 + s) k = (if zusN g = 0 then -9 else nI (u + zusN g - 1)) ∧ I' (72 + s) k = zor (I (71 + s)) u (zusN g)) →
      (∀ j, I' (79 + s) j = if u ≤ j ∧ j < u + zusN g then I (79 + s) j + 1 else I (79 + s) j) → K none (zm I' J)) :
    zi_B sc 0 0 14 0 [some (.ref 45), some (.int (nI (s + 1))), some (.int (nI k)), some (.int (nI g)), some (.int (nI u))] [] (zm I J) K := by
  obtain ⟨⟨rs, rf, rl, rc, -⟩, ms, mf, ml, mc, -⟩ := zL_row (s + 1) (by omega)
  rw [show 71 + (s + 1) = 72 + s by omega] at rc mc
  rw [show 47 + (s + 1) = 48 + s by omega] at rs ms
  rw [show 55 + (s + 1) = 56 + s by omega] at rf mf
  rw [show 63 + (s + 1) = 64 + s by omega] at rl ml
  have e1 : (nI (s + 1)).toNatClampNeg = s + 1 := nI_clamp (by omega)
  have e3 : (nI k).toNatClampNeg = k := nI_clamp (by omega)
  have e5 : (nI g).toNatClampNeg = g := nI_clamp (by omega)
  have v1 : zi_vin (nI (s + 1)) 7 = true := zv_nI (by omega) (by omega)
  have v3 : zi_vin (nI k) 60 = true := zv_nI (by omega) (by omega)
  have v5 : zi_vin (nI g) 5 = true := zv_nI (by omega) (by omega)
  have c1 : ¬ (60 : Int32) ≤ nI k := by (simp only [zt_eq, Int32.lt_iff_toInt_lt, Int32.le_iff_toInt_le, zt_add, zt_sub, zt_neg, zt_nI, zl_0, zl_1, zl_2, zl_3, zl_4, zl_5, zl_6, zl_7, zl_8, zl_9, zl_10, zl_16, zl_20, zl_30, zl_60, zl_1080, zl_m1, zl_m2, zl_m9]; omega)
  have c2 : nI (u + zusN g) ≤ 60 := by (simp only [zt_eq, Int32.lt_iff_toInt_lt, Int32.le_iff_toInt_le, zt_add, zt_sub, zt_neg, zt_nI, zl_0, zl_1, zl_2, zl_3, zl_4, zl_5, zl_6, zl_7, zl_8, zl_9, zl_10, zl_16, zl_20, zl_30, zl_60, zl_1080, zl_m1, zl_m2, zl_m9]; omega)
  have hug := zU_nI hg
  by_cases z : zusN g = 0
  · have c3 : nI (u + zusN g) ≤ nI u := by rw [z]; (simp only [zt_eq, Int32.lt_iff_toInt_lt, Int32.le_iff_toInt_le, zt_add, zt_sub, zt_neg, zt_nI, zl_0, zl_1, zl_2, zl_3, zl_4, zl_5, zl_6, zl_7, zl_8, zl_9, zl_10, zl_16, zl_20, zl_30, zl_60, zl_1080, zl_m1, zl_m2, zl_m9]; omega)
    rw [if_pos z, if_pos z] at hK
    simp only [zi_wp_c, zi_wK_if, zi_wK_go, zi_wK_no, zi_wK_b, zi_wK_r, zi_wK_c, zi_cc_i, zi_cc_n, zi_B_if, zi_ifF, zx_nop, zx_iconst, zx_bipush, zx_sipush, zx_lconst, zx_ldc2_w, zx_aconst_null, zx_iload, zx_iload_n, zx_lload, zx_lload_n, zx_aload, zx_aload_n, zx_istore, zx_istore_n, zx_lstore, zx_lstore_n, zx_astore, zx_astore_n, zx_iinc, zx_iadd, zx_isub, zx_imul, zx_iand, zx_ior, zx_ishl, zx_ishr, zx_idiv, zx_irem, zx_ladd, zx_ldiv, zx_lrem, zx_lcmp, zx_i2l, zx_i2b, zx_i2s, zx_pop, zx_dup, zx_dup2, zx_getfield, zx_putfield, zx_getstatic, zx_iaload, zx_iastore, zx_laload, zx_lastore, zx_aaload, zx_arraylength, zx_goto, zx_ifCond, zx_if_icmp, zx_ifnull, zx_ifnonnull, zx_tableswitch, zx_lookupswitch, zx_ireturn, zx_lreturn, zx_areturn, zx_return_, zx_invokestatic, zx_invokevirtual, zi_ldi, zi_ldl, zi_lda, zi_sti, zi_stl, zi_sta, zi_inc, zi_b2, zi_d2, zi_l2, zi_dl2, zi_lc, zi_u1, zi_pp, zi_dup, zi_dup2, zi_gf, zi_pf, zi_ial, zi_ias, zi_lal, zi_las, zi_aal, zi_aln, zi_cp, zi_cmp, zi_if, zi_ic, zi_nul, zi_nnl, zi_sw, zi_ri, zi_rl, zi_ra, zi_rv, zi_iv, zi_ivr, zi_st1, zi_st2, zq_get0, zq_getS, zq_getN, zq_put0, zq_putS, zq_putN0, zq_putNS, zq_kl0, zq_klS, zq_Ln, zq_Li, zq_Lr, zq_Lf, zq_Lz, zq_Ll, zq_ft0, zq_fti, zq_ftr, zq_ftz, zq_ftf, zq_ftl, zq_pop0, zq_popS, zq_la0, zq_lai, zq_lar, zq_laz, zq_laf, zq_lal, zq_sh0, zq_sh1, zq_sh2, zq_sh3, zq_sh4, zq_f0, zq_f1, zq_f2, zq_f3, zq_u0, zq_u1, zq_u2, zq_ro0, zq_ro1, zq_ro2, zq_fv0, zq_fv2, zq_rfs, zq_rfn, zq_gD0, zq_gDS, zq_gDN, zq_lk0, zq_lkS, zq_tb0, zq_tbS, zq_o0, zq_o1, zq_o2, zq_o98, zq_o99, zq_o100, zq_o105, zq_o107, zq_o112, zq_o115, zq_o116, zq_c0, zq_c1, zq_v0, zq_v1, decide_eq_true_eq, List.toList_toArray, if_true, if_false, ite_self, and_true, true_and, and_false, false_and, true_or, or_true, or_false, false_or, not_true_eq_false, not_false_eq_true, Bool.false_eq_true, reduceCtorEq, ne_eq, ite_not, eq_self, Prod.mk.injEq, Nat.reduceEqDiff, Nat.reduceSub, Nat.reduceAdd, Nat.reduceLT, Nat.reduceLeDiff, zb_14_0, zc_14_0, zb_14_1, zc_14_1, zb_14_2, zc_14_2, zb_14_3, zc_14_3, zb_14_4, zc_14_4, zb_14_5, zc_14_5, zb_14_6, zc_14_6, zmt_0, zmt_1, zmt_2, zmt_3, zmt_16, zmt_17, zmt_30, zmt_31, zmt_32, zmt_45, zmt_46, zmt_54, zmt_62, zmt_70, zmt_78, zmt_86, zmt_87, zmt_88, zmt_89, zmt_90, zmt_91, zmt_92, zmt_93, zmt_94, zmt_95, zmt_96, zrc_0_0, zrc_0_1, zrc_0_2, zrc_0_3, zrc_0_4, zrc_0_5, zrc_0_6, zrc_2_3, zrc_16_3, zrc_30_0, zrc_31_3, zrc_45_0, zrc_45_1, zrc_45_2, zrc_45_3, zrc_45_4, zrc_86_1, zrc_86_2, zrc_89_0, zrc_89_1, zrc_89_4, zrc_89_5, zrc_89_6, zrc_89_7, zrc_89_8, e1, e3, e5, v1, v3, v5, rs, rf, rl, rc, ms, mf, ml, mc, hug, nI_add, c1, c2, c3]
    exact g_L_loop hs hk hv hK
  · have c3 : ¬ nI (u + zusN g) ≤ nI u := by (simp only [zt_eq, Int32.lt_iff_toInt_lt, Int32.le_iff_toInt_le, zt_add, zt_sub, zt_neg, zt_nI, zl_0, zl_1, zl_2, zl_3, zl_4, zl_5, zl_6, zl_7, zl_8, zl_9, zl_10, zl_16, zl_20, zl_30, zl_60, zl_1080, zl_m1, zl_m2, zl_m9]; omega)
    have c4 : nI (u + zusN g) - 1 = nI (u + zusN g - 1) := zn_subl (b := 1) (by omega)
    rw [if_neg z, if_neg z] at hK
    simp only [zi_wp_c, zi_wK_if, zi_wK_go, zi_wK_no, zi_wK_b, zi_wK_r, zi_wK_c, zi_cc_i, zi_cc_n, zi_B_if, zi_ifF, zx_nop, zx_iconst, zx_bipush, zx_sipush, zx_lconst, zx_ldc2_w, zx_aconst_null, zx_iload, zx_iload_n, zx_lload, zx_lload_n, zx_aload, zx_aload_n, zx_istore, zx_istore_n, zx_lstore, zx_lstore_n, zx_astore, zx_astore_n, zx_iinc, zx_iadd, zx_isub, zx_imul, zx_iand, zx_ior, zx_ishl, zx_ishr, zx_idiv, zx_irem, zx_ladd, zx_ldiv, zx_lrem, zx_lcmp, zx_i2l, zx_i2b, zx_i2s, zx_pop, zx_dup, zx_dup2, zx_getfield, zx_putfield, zx_getstatic, zx_iaload, zx_iastore, zx_laload, zx_lastore, zx_aaload, zx_arraylength, zx_goto, zx_ifCond, zx_if_icmp, zx_ifnull, zx_ifnonnull, zx_tableswitch, zx_lookupswitch, zx_ireturn, zx_lreturn, zx_areturn, zx_return_, zx_invokestatic, zx_invokevirtual, zi_ldi, zi_ldl, zi_lda, zi_sti, zi_stl, zi_sta, zi_inc, zi_b2, zi_d2, zi_l2, zi_dl2, zi_lc, zi_u1, zi_pp, zi_dup, zi_dup2, zi_gf, zi_pf, zi_ial, zi_ias, zi_lal, zi_las, zi_aal, zi_aln, zi_cp, zi_cmp, zi_if, zi_ic, zi_nul, zi_nnl, zi_sw, zi_ri, zi_rl, zi_ra, zi_rv, zi_iv, zi_ivr, zi_st1, zi_st2, zq_get0, zq_getS, zq_getN, zq_put0, zq_putS, zq_putN0, zq_putNS, zq_kl0, zq_klS, zq_Ln, zq_Li, zq_Lr, zq_Lf, zq_Lz, zq_Ll, zq_ft0, zq_fti, zq_ftr, zq_ftz, zq_ftf, zq_ftl, zq_pop0, zq_popS, zq_la0, zq_lai, zq_lar, zq_laz, zq_laf, zq_lal, zq_sh0, zq_sh1, zq_sh2, zq_sh3, zq_sh4, zq_f0, zq_f1, zq_f2, zq_f3, zq_u0, zq_u1, zq_u2, zq_ro0, zq_ro1, zq_ro2, zq_fv0, zq_fv2, zq_rfs, zq_rfn, zq_gD0, zq_gDS, zq_gDN, zq_lk0, zq_lkS, zq_tb0, zq_tbS, zq_o0, zq_o1, zq_o2, zq_o98, zq_o99, zq_o100, zq_o105, zq_o107, zq_o112, zq_o115, zq_o116, zq_c0, zq_c1, zq_v0, zq_v1, decide_eq_true_eq, List.toList_toArray, if_true, if_false, ite_self, and_true, true_and, and_false, false_and, true_or, or_true, or_false, false_or, not_true_eq_false, not_false_eq_true, Bool.false_eq_true, reduceCtorEq, ne_eq, ite_not, eq_self, Prod.mk.injEq, Nat.reduceEqDiff, Nat.reduceSub, Nat.reduceAdd, Nat.reduceLT, Nat.reduceLeDiff, zb_14_0, zc_14_0, zb_14_1, zc_14_1, zb_14_2, zc_14_2, zb_14_3, zc_14_3, zb_14_4, zc_14_4, zb_14_5, zc_14_5, zb_14_6, zc_14_6, zmt_0, zmt_1, zmt_2, zmt_3, zmt_16, zmt_17, zmt_30, zmt_31, zmt_32, zmt_45, zmt_46, zmt_54, zmt_62, zmt_70, zmt_78, zmt_86, zmt_87, zmt_88, zmt_89, zmt_90, zmt_91, zmt_92, zmt_93, zmt_94, zmt_95, zmt_96, zrc_0_0, zrc_0_1, zrc_0_2, zrc_0_3, zrc_0_4, zrc_0_5, zrc_0_6, zrc_2_3, zrc_16_3, zrc_30_0, zrc_31_3, zrc_45_0, zrc_45_1, zrc_45_2, zrc_45_3, zrc_45_4, zrc_86_1, zrc_86_2, zrc_89_0, zrc_89_1, zrc_89_4, zrc_89_5, zrc_89_6, zrc_89_7, zrc_89_8, e1, e3, e5, v1, v3, v5, rs, rf, rl, rc, ms, mf, ml, mc, hug, nI_add, c1, c2, c3, c4]
    exact g_L_loop hs hk hv hK
/-- the rows of ROUND s + 1 in x's memory -/
def zXw (I : Nat → Nat → Int32) (x : zRt) (s t q : Nat) : Prop := zLw 60 x (I (71 + s)) (I (48 + s)) (I (56 + s)) (I (64 + s)) (I (72 + s)) (I (79 + s)) t q
/-- other rows of the memory are as they were -/
def zXo (s : Nat) (I I' : Nat → Nat → Int32) : Prop := ∀ a, a ≠ 79 + s → a ≠ 72 + s → a ≠ 48 + s → a ≠ 56 + s → a ≠ 64 + s → I' a = I a
theorem zXo.tr {s : Nat} {I I' I'' : Nat → Nat → Int32} (h : zXo s I I') (h' : zXo s I' I'') : zXo s I I'' := fun a a1 a2 a3 a4 a5 => (h' a a1 a2 a3 a4 a5).trans (h a a1 a2 a3 a4 a5)
/-- the loops of one sign -/
theorem l_L_r5 {s o tm : Nat} {x : zRt} (hs : s < 6) {t i : Nat} (hi : i < x.2.2.1) (hg : zsg x t < 5) (hu : zsU x (t + 1) ≤ 60) (hm : zsM x (t + 1) ≤ 60) : ∀ d q (I : Nat → Nat → Int32), q + d = zmkN (zsg x t) → zXw I x s t q →
    (∀ I', zXo s I I' → zXw I' x s t (zmkN (zsg x t)) → zi_B sc 0 0 13 6 [some (.ref 45), some (.int (nI (s + 1))), some (.ref o), some (.int (nI (zsU x t))), some (.int (nI (zsM x (t + 1)))), some (.int (nI tm)), some (.int (nI i)), some (.int (nI (zsg x t))), some (.int (nI (zmkN (zsg x t))))] [] (zm I' J) K) →
    zi_B sc 0 0 13 5 [some (.ref 45), some (.int (nI (s + 1))), some (.ref o), some (.int (nI (zsU x t))), some (.int (nI (zsM x t + q))), some (.int (nI tm)), some (.int (nI i)), some (.int (nI (zsg x t))), some (.int (nI q))] [] (zm I J) K := by
  have e5 : (nI (zsg x t)).toNatClampNeg = zsg x t := nI_clamp (by omega)
  have v5 : zi_vin (nI (zsg x t)) 5 = true := zv_nI (by omega) (by omega)
  have hmk := zK_nI hg
  have hm2 := zmkN_le (zsg x t)
  have hmt : zsM x (t + 1) = zsM x t + zmkN (zsg x t) := rfl
  have hut : zsU x (t + 1) = zsU x t + zusN (zsg x t) := rfl
  intro d
  induction d with
  | zero =>
    intro q I hq hw hK
    have : q = zmkN (zsg x t) := by omega
    subst this
    have c1 : nI (zmkN (zsg x t)) ≤ nI (zmkN (zsg x t)) := by (simp only [zt_eq, Int32.lt_iff_toInt_lt, Int32.le_iff_toInt_le, zt_add, zt_sub, zt_neg, zt_nI, zl_0, zl_1, zl_2, zl_3, zl_4, zl_5, zl_6, zl_7, zl_8, zl_9, zl_10, zl_16, zl_20, zl_30, zl_60, zl_1080, zl_m1, zl_m2, zl_m9]; omega)
    rw [zb_13_5]
    simp only [zi_wp_c, zi_wK_if, zi_wK_go, zi_wK_no, zi_wK_b, zi_wK_r, zi_wK_c, zi_cc_i, zi_cc_n, zi_B_if, zi_ifF, zx_nop, zx_iconst, zx_bipush, zx_sipush, zx_lconst, zx_ldc2_w, zx_aconst_null, zx_iload, zx_iload_n, zx_lload, zx_lload_n, zx_aload, zx_aload_n, zx_istore, zx_istore_n, zx_lstore, zx_lstore_n, zx_astore, zx_astore_n, zx_iinc, zx_iadd, zx_isub, zx_imul, zx_iand, zx_ior, zx_ishl, zx_ishr, zx_idiv, zx_irem, zx_ladd, zx_ldiv, zx_lrem, zx_lcmp, zx_i2l, zx_i2b, zx_i2s, zx_pop, zx_dup, zx_dup2, zx_getfield, zx_putfield, zx_getstatic, zx_iaload, zx_iastore, zx_laload, zx_lastore, zx_aaload, zx_arraylength, zx_goto, zx_ifCond, zx_if_icmp, zx_ifnull, zx_ifnonnull, zx_tableswitch, zx_lookupswitch, zx_ireturn, zx_lreturn, zx_areturn, zx_return_, zx_invokestatic, zx_invokevirtual, zi_ldi, zi_ldl, zi_lda, zi_sti, zi_stl, zi_sta, zi_inc, zi_b2, zi_d2, zi_l2, zi_dl2, zi_lc, zi_u1, zi_pp, zi_dup, zi_dup2, zi_gf, zi_pf, zi_ial, zi_ias, zi_lal, zi_las, zi_aal, zi_aln, zi_cp, zi_cmp, zi_if, zi_ic, zi_nul, zi_nnl, zi_sw, zi_ri, zi_rl, zi_ra, zi_rv, zi_iv, zi_ivr, zi_st1, zi_st2, zq_get0, zq_getS, zq_getN, zq_put0, zq_putS, zq_putN0, zq_putNS, zq_kl0, zq_klS, zq_Ln, zq_Li, zq_Lr, zq_Lf, zq_Lz, zq_Ll, zq_ft0, zq_fti, zq_ftr, zq_ftz, zq_ftf, zq_ftl, zq_pop0, zq_popS, zq_la0, zq_lai, zq_lar, zq_laz, zq_laf, zq_lal, zq_sh0, zq_sh1, zq_sh2, zq_sh3, zq_sh4, zq_f0, zq_f1, zq_f2, zq_f3, zq_u0, zq_u1, zq_u2, zq_ro0, zq_ro1, zq_ro2, zq_fv0, zq_fv2, zq_rfs, zq_rfn, zq_gD0, zq_gDS, zq_gDN, zq_lk0, zq_lkS, zq_tb0, zq_tbS, zq_o0, zq_o1, zq_o2, zq_o98, zq_o99, zq_o100, zq_o105, zq_o107, zq_o112, zq_o115, zq_o116, zq_c0, zq_c1, zq_v0, zq_v1, decide_eq_true_eq, List.toList_toArray, if_true, if_false, ite_self, and_true, true_and, and_false, false_and, true_or, or_true, or_false, false_or, not_true_eq_false, not_false_eq_true, Bool.false_eq_true, reduceCtorEq, ne_eq, ite_not, eq_self, Prod.mk.injEq, Nat.reduceEqDiff, Nat.reduceSub, Nat.reduceAdd, Nat.reduceLT, Nat.reduceLeDiff, zc_13_5, e5, v5, hmk, c1]
    rw [← hmt]
    exact hK I (fun a _ _ _ _ _ => rfl) hw
  | succ d ih =>
    intro q I hq hw hK
    have c1 : ¬ nI (zmkN (zsg x t)) ≤ nI q := by (simp only [zt_eq, Int32.lt_iff_toInt_lt, Int32.le_iff_toInt_le, zt_add, zt_sub, zt_neg, zt_nI, zl_0, zl_1, zl_2, zl_3, zl_4, zl_5, zl_6, zl_7, zl_8, zl_9, zl_10, zl_16, zl_20, zl_30, zl_60, zl_1080, zl_m1, zl_m2, zl_m9]; omega)
    rw [zb_13_5]
    simp only [zi_wp_c, zi_wK_if, zi_wK_go, zi_wK_no, zi_wK_b, zi_wK_r, zi_wK_c, zi_cc_i, zi_cc_n, zi_B_if, zi_ifF, zx_nop, zx_iconst, zx_bipush, zx_sipush, zx_lconst, zx_ldc2_w, zx_aconst_null, zx_iload, zx_iload_n, zx_lload, zx_lload_n, zx_aload, zx_aload_n, zx_istore, zx_istore_n, zx_lstore, zx_lstore_n, zx_astore, zx_astore_n, zx_iinc, zx_iadd, zx_isub, zx_imul, zx_iand, zx_ior, zx_ishl, zx_ishr, zx_idiv, zx_irem, zx_ladd, zx_ldiv, zx_lrem, zx_lcmp, zx_i2l, zx_i2b, zx_i2s, zx_pop, zx_dup, zx_dup2, zx_getfield, zx_putfield, zx_getstatic, zx_iaload, zx_iastore, zx_laload, zx_lastore, zx_aaload, zx_arraylength, zx_goto, zx_ifCond, zx_if_icmp, zx_ifnull, zx_ifnonnull, zx_tableswitch, zx_lookupswitch, zx_ireturn, zx_lreturn, zx_areturn, zx_return_, zx_invokestatic, zx_invokevirtual, zi_ldi, zi_ldl, zi_lda, zi_sti, zi_stl, zi_sta, zi_inc, zi_b2, zi_d2, zi_l2, zi_dl2, zi_lc, zi_u1, zi_pp, zi_dup, zi_dup2, zi_gf, zi_pf, zi_ial, zi_ias, zi_lal, zi_las, zi_aal, zi_aln, zi_cp, zi_cmp, zi_if, zi_ic, zi_nul, zi_nnl, zi_sw, zi_ri, zi_rl, zi_ra, zi_rv, zi_iv, zi_ivr, zi_st1, zi_st2, zq_get0, zq_getS, zq_getN, zq_put0, zq_putS, zq_putN0, zq_putNS, zq_kl0, zq_klS, zq_Ln, zq_Li, zq_Lr, zq_Lf, zq_Lz, zq_Ll, zq_ft0, zq_fti, zq_ftr, zq_ftz, zq_ftf, zq_ftl, zq_pop0, zq_popS, zq_la0, zq_lai, zq_lar, zq_laz, zq_laf, zq_lal, zq_sh0, zq_sh1, zq_sh2, zq_sh3, zq_sh4, zq_f0, zq_f1, zq_f2, zq_f3, zq_u0, zq_u1, zq_u2, zq_ro0, zq_ro1, zq_ro2, zq_fv0, zq_fv2, zq_rfs, zq_rfn, zq_gD0, zq_gDS, zq_gDN, zq_lk0, zq_lkS, zq_tb0, zq_tbS, zq_o0, zq_o1, zq_o2, zq_o98, zq_o99, zq_o100, zq_o105, zq_o107, zq_o112, zq_o115, zq_o116, zq_c0, zq_c1, zq_v0, zq_v1, decide_eq_true_eq, List.toList_toArray, if_true, if_false, ite_self, and_true, true_and, and_false, false_and, true_or, or_true, or_false, false_or, not_true_eq_false, not_false_eq_true, Bool.false_eq_true, reduceCtorEq, ne_eq, ite_not, eq_self, Prod.mk.injEq, Nat.reduceEqDiff, Nat.reduceSub, Nat.reduceAdd, Nat.reduceLT, Nat.reduceLeDiff, zc_13_5, e5, v5, hmk, c1, zmt_45]
    refine s_L_loop hs (by omega) hg (by omega) (fun I' a1 a2 a3 a4 => ?_)
    simp only [zi_wp_c, zi_wK_if, zi_wK_go, zi_wK_no, zi_wK_b, zi_wK_r, zi_wK_c, zi_cc_i, zi_cc_n, zi_B_if, zi_ifF, zx_nop, zx_iconst, zx_bipush, zx_sipush, zx_lconst, zx_ldc2_w, zx_aconst_null, zx_iload, zx_iload_n, zx_lload, zx_lload_n, zx_aload, zx_aload_n, zx_istore, zx_istore_n, zx_lstore, zx_lstore_n, zx_astore, zx_astore_n, zx_iinc, zx_iadd, zx_isub, zx_imul, zx_iand, zx_ior, zx_ishl, zx_ishr, zx_idiv, zx_irem, zx_ladd, zx_ldiv, zx_lrem, zx_lcmp, zx_i2l, zx_i2b, zx_i2s, zx_pop, zx_dup, zx_dup2, zx_getfield, zx_putfield, zx_getstatic, zx_iaload, zx_iastore, zx_laload, zx_lastore, zx_aaload, zx_arraylength, zx_goto, zx_ifCond, zx_if_icmp, zx_ifnull, zx_ifnonnull, zx_tableswitch, zx_lookupswitch, zx_ireturn, zx_lreturn, zx_areturn, zx_return_, zx_invokestatic, zx_invokevirtual, zi_ldi, zi_ldl, zi_lda, zi_sti, zi_stl, zi_sta, zi_inc, zi_b2, zi_d2, zi_l2, zi_dl2, zi_lc, zi_u1, zi_pp, zi_dup, zi_dup2, zi_gf, zi_pf, zi_ial, zi_ias, zi_lal, zi_las, zi_aal, zi_aln, zi_cp, zi_cmp, zi_if, zi_ic, zi_nul, zi_nnl, zi_sw, zi_ri, zi_rl, zi_ra, zi_rv, zi_iv, zi_ivr, zi_st1, zi_st2, zq_get0, zq_getS, zq_getN, zq_put0, zq_putS, zq_putN0, zq_putNS, zq_kl0, zq_klS, zq_Ln, zq_Li, zq_Lr, zq_Lf, zq_Lz, zq_Ll, zq_ft0, zq_fti, zq_ftr, zq_ftz, zq_ftf, zq_ftl, zq_pop0, zq_popS, zq_la0, zq_lai, zq_lar, zq_laz, zq_laf, zq_lal, zq_sh0, zq_sh1, zq_sh2, zq_sh3, zq_sh4, zq_f0, zq_f1, zq_f2, zq_f3, zq_u0, zq_u1, zq_u2, zq_ro0, zq_ro1, zq_ro2, zq_fv0, zq_fv2, zq_rfs, zq_rfn, zq_gD0, zq_gDS, zq_gDN, zq_lk0, zq_lkS, zq_tb0, zq_tbS, zq_o0, zq_o1, zq_o2, zq_o98, zq_o99, zq_o100, zq_o105, zq_o107, zq_o112, zq_o115, zq_o116, zq_c0, zq_c1, zq_v0, zq_v1, decide_eq_true_eq, List.toList_toArray, if_true, if_false, ite_self, and_true, true_and, and_false, false_and, true_or, or_true, or_false, false_or, not_true_eq_false, not_false_eq_true, Bool.false_eq_true, reduceCtorEq, ne_eq, ite_not, eq_self, Prod.mk.injEq, Nat.reduceEqDiff, Nat.reduceSub, Nat.reduceAdd, Nat.reduceLT, Nat.reduceLeDiff]
    rw [nI_1, nI_1, Nat.add_assoc]
    refine ih (q + 1) I' (by omega) ?_ (fun I2 b1 b2 => hK I2 (zXo.tr a1 b1) b2)
    have hb : I' (71 + s) = I (71 + s) := a1 _ (by omega) (by omega) (by omega) (by omega) (by omega)
    unfold zXw
    rw [hb]
    exact hw.put (fun k hk => a2 k (by omega)) a3 (fun k _ => by rw [hut]; exact a4 k)
end ZY
