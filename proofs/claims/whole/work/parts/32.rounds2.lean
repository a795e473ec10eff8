/-! sign, spun, tell, tug, as, many, ravel, reading, back on both sides -/
theorem zsg_cong {x y : zRt} (h : x.2.2 = y.2.2) (t : Nat) : zsg x t = zsg y t := by unfold zsg; rw [h]
theorem zsU_cong {x y : zRt} (h : x.2.2 = y.2.2) : ∀ t, zsU x t = zsU y t
  | 0 => rfl
  | t + 1 => by simp only [zsU]; rw [zsU_cong h t, zsg_cong h t]
theorem zsM_cong {x y : zRt} (h : x.2.2 = y.2.2) : ∀ t, zsM x t = zsM y t
  | 0 => rfl
  | t + 1 => by simp only [zsM]; rw [zsM_cong h t, zsg_cong h t]
theorem zab_cong {x y : zRt} (h : x.2.2 = y.2.2) : ∀ t k, zab x t k = zab y t k
  | 0, _ => rfl
  | t + 1, k => by simp only [zab]; rw [zab_cong h t, zsU_cong h, zsU_cong h, zsg_cong h t]
theorem zLy.cong {I : Nat → Nat → Int32} {ring n : Nat} {rd rd' : Nat → zRt} (h : zLy I ring n rd) (hc : ∀ r, (rd' r).2.2 = (rd r).2.2) : zLy I ring n rd' := by
  intro hr
  obtain ⟨h1, h2⟩ := h hr
  have hl : ∀ k, zlp ring rd' k = zlp ring rd k := fun k => zlp_cong k (fun r _ => by unfold zuR zmR; rw [hc r]; exact ⟨rfl, rfl⟩)
  have hT : ∀ r, zT ring rd' r = zT ring rd r := fun r => by unfold zT zuR; rw [hl r, hc r]
  refine ⟨h1, fun r hn => ?_⟩
  obtain ⟨h3, h4⟩ := h2 r hn
  rw [hT, hl]
  refine ⟨fun t ht q hq => ?_, fun k hk => ?_⟩
  · rw [zsg_cong (hc r)] at hq
    rw [zsg_cong (hc r), zsU_cong (hc r), zsM_cong (hc r)]
    exact h3 t ht q hq
  · rw [zab_cong (hc r)]
    exact h4 k hk
theorem zOk.fl {S : zS} (h : zOk S) (v : Int32) : zOk (zfl S v) := h
theorem zOk.sh {S : zS} (h : zOk S) (v : Int32) (k : Nat) {l : Int32} {s : Nat} (c : Nat → Int32) (hl : l = -9 ∨ l = 0 ∨ l = 1 ∨ l = 2) (hs : s ≤ 60) : zOk (zsh S v k l s c) := by
  refine ⟨fun q hq => ?_, h.2⟩
  show (va_up S.2.1.1 k l q = -9 ∨ va_up S.2.1.1 k l q = 0 ∨ va_up S.2.1.1 k l q = 1 ∨ va_up S.2.1.1 k l q = 2) ∧ va_up S.2.1.2.1 k s q ≤ 60
  unfold va_up
  by_cases e : q = k
  · simp only [if_pos e]
    exact ⟨hl, hs⟩
  · simp only [if_neg e]
    exact h.1 q hq
theorem o_sheet {S : zS} {k lane c : Int32} (h : zOk S) : zOk (zF_sheet S k lane c).1 := by
  unfold zF_sheet
  by_cases c0 : zNo k 3
  · rw [if_pos c0]; exact h
  · rw [if_neg c0]
    by_cases c1 : zNo lane 2 ∨ 60 < c
    · rw [if_pos c1]; exact h
    · rw [if_neg c1]
      by_cases c2 : c < 0
      · rw [if_pos c2]; exact h
      · rw [if_neg c2]
        obtain ⟨l, hl, rfl⟩ := zNo_ex (by omega) (fun h => c1 (Or.inl h))
        obtain ⟨w, hw, rfl⟩ : ∃ w, w ≤ 60 ∧ c = nI w := zNo_ex (n := 60) (by omega) (fun h => h.elim c2 (fun h => c1 (Or.inr h)))
        rw [show (nI w).toNatClampNeg = w from nI_clamp (by omega)]
        refine h.sh 0 _ _ ?_ hw
        rcases (show l = 0 ∨ l = 1 ∨ l = 2 by omega) with e | e | e <;> subst e
        · exact Or.inr (Or.inl rfl)
        · exact Or.inr (Or.inr (Or.inl rfl))
        · exact Or.inr (Or.inr (Or.inr rfl))
theorem o_lose {S : zS} {k : Int32} (h : zOk S) : zOk (zF_lose S k).1 := by
  unfold zF_lose
  by_cases c0 : zNo k 3
  · rw [if_pos c0]; exact h
  · rw [if_neg c0]
    obtain ⟨k, hk, rfl⟩ := zNo_ex (by omega) c0
    rw [show (nI k).toNatClampNeg = k from nI_clamp (by omega)]
    exact h.sh _ _ _ (Or.inl rfl) (h.1 k (by omega)).2
theorem o_put {S : zS} {k i v : Int32} (h : zOk S) : zOk (zF_put S k i v).1 := by
  unfold zF_put
  by_cases c0 : zNo k 3
  · rw [if_pos c0]; exact h
  · rw [if_neg c0]
    obtain ⟨k, hk, rfl⟩ := zNo_ex (by omega) c0
    rw [show (nI k).toNatClampNeg = k from nI_clamp (by omega)]
    by_cases c1 : S.2.1.1 k = -9
    · rw [if_pos c1]; exact h
    · rw [if_neg c1]
      by_cases c2 : zLk (S.2.1.2.1 k) i 1
      · rw [if_pos c2]; exact h
      · rw [if_neg c2]
        exact h.sh _ _ _ (h.1 k (by omega)).1 (h.1 k (by omega)).2
theorem o_cell {S : zS} {k i lane : Int32} (h : zOk S) : zOk (zF_cell S k i lane).1 := by
  unfold zF_cell
  by_cases c0 : zNo k 3 ∨ zNo lane 2
  · rw [if_pos c0]; exact h
  · rw [if_neg c0]; exact h
theorem o_copy {S : zS} {k i o j c : Int32} (h : zOk S) : zOk (zF_copy S k i o j c).1 := by
  unfold zF_copy
  by_cases c0 : zNo k 3 ∨ zNo o 3
  · rw [if_pos c0]; exact h
  · rw [if_neg c0]
    obtain ⟨o, ho, rfl⟩ := zNo_ex (by omega) (fun h => c0 (Or.inr h))
    rw [show (nI o).toNatClampNeg = o from nI_clamp (by omega)]
    by_cases c1 : S.2.1.1 k.toNatClampNeg = -9 ∨ S.2.1.1 o = -9
    · rw [if_pos c1]; exact h
    · rw [if_neg c1]
      by_cases c2 : S.2.1.1 k.toNatClampNeg ≠ S.2.1.1 o
      · rw [if_pos c2]; exact h
      · rw [if_neg c2]
        by_cases c3 : zLk (S.2.1.2.1 k.toNatClampNeg) i c ∨ zLk (S.2.1.2.1 o) j c
        · rw [if_pos c3]; exact h
        · rw [if_neg c3]
          exact h.sh _ _ _ (h.1 o (by omega)).1 (h.1 o (by omega)).2
section ZO2
variable {sc : Nat × (Nat → Int32)} {I I' : Nat → Nat → Int32} {J : Nat → Nat → Int64} {K : Option Value → zi_M → Prop} {S : zS}
theorem zpred_nlt {a j : Nat} (h : j < a) (ha : a ≤ 1000) : ¬ nI a - 1 < nI j := by
  obtain ⟨b, rfl⟩ : ∃ b, a = b + 1 := ⟨a - 1, by omega⟩
  rw [show nI (b + 1) - 1 = nI b from zn_sub b 1]
  (simp only [zt_eq, Int32.lt_iff_toInt_lt, Int32.le_iff_toInt_le, zt_add, zt_sub, zt_neg, zt_nI, zl_0, zl_1, zl_2, zl_3, zl_4, zl_5, zl_6, zl_7, zl_8, zl_9, zl_10, zl_16, zl_20, zl_30, zl_60, zl_1080, zl_m1, zl_m2, zl_m9]; omega)
/-- sign -/
def zF_sign (S : zS) (r i : Int32) : Int32 := if zNr S.2.2.1.2.1 r then -1 else if i < 0 ∨ nI (S.2.2.1.2.2 (r.toNatClampNeg - 1)).2.2.1 ≤ i then -1 else nI ((S.2.2.1.2.2 (r.toNatClampNeg - 1)).2.2.2 i.toNatClampNeg)
theorem zpl_ex {c : Nat} {i : Int32} (hc : c ≤ 5) (h : ¬ (i < 0 ∨ nI c ≤ i)) : ∃ j, j < c ∧ i = nI j := by
  have h1 : ¬ i < 0 := fun x => h (Or.inl x)
  have h2 : ¬ nI c ≤ i := fun x => h (Or.inr x)
  have := zt_ran i
  simp only [zt_eq, Int32.lt_iff_toInt_lt, Int32.le_iff_toInt_le, zt_add, zt_sub, zt_neg, zt_nI, zl_0, zl_1, zl_2, zl_3, zl_4, zl_5, zl_6, zl_7, zl_8, zl_9, zl_10, zl_16, zl_20, zl_30, zl_60, zl_1080, zl_m1, zl_m2, zl_m9] at h1 h2
  exact ⟨i.toInt.toNat, by omega, zt_of (by omega)⟩
theorem x_sign {r i : Int32} : zSx 62 [some (.int r), some (.int i)] S S (.int (zF_sign S r i)) := by
  intro sc I J K hX hO hK
  obtain ⟨⟨ft, tr⟩, ⟨ln, sz, cl⟩, ⟨ring, n, rd⟩, nr, rr, rv⟩ := S
  obtain ⟨⟨xf, xt⟩, xs, xp, xr, xl, xq, x1, x2⟩ := id hX
  obtain ⟨os, ⟨og, o6, oR, oL⟩, o8, oq⟩ := id hO
  dsimp only at xf xt xs xp xr xl os og o6 oR oL o8 oq hK ⊢
  obtain ⟨xb, xps, xpl⟩ := id xp
  obtain ⟨⟨pr, pn⟩, ⟨pr60, pn6⟩, pv⟩ := id xps
  have hE := hK I J hX (fun _ _ => rfl) (fun _ _ => rfl)
  unfold zF_sign at hE
  have d1 : ¬ (1 : Int32) = 0 := by decide
  by_cases c0 : zNr n r
  · rw [if_pos c0] at hE
    simp only [zi_wp_c, zi_wK_if, zi_wK_go, zi_wK_no, zi_wK_b, zi_wK_r, zi_wK_c, zi_cc_i, zi_cc_n, zi_B_if, zi_ifF, zx_nop, zx_iconst, zx_bipush, zx_sipush, zx_lconst, zx_ldc2_w, zx_aconst_null, zx_iload, zx_iload_n, zx_lload, zx_lload_n, zx_aload, zx_aload_n, zx_istore, zx_istore_n, zx_lstore, zx_lstore_n, zx_astore, zx_astore_n, zx_iinc, zx_iadd, zx_isub, zx_imul, zx_iand, zx_ior, zx_ishl, zx_ishr, zx_idiv, zx_irem, zx_ladd, zx_ldiv, zx_lrem, zx_lcmp, zx_i2l, zx_i2b, zx_i2s, zx_pop, zx_dup, zx_dup2, zx_getfield, zx_putfield, zx_getstatic, zx_iaload, zx_iastore, zx_laload, zx_lastore, zx_aaload, zx_arraylength, zx_goto, zx_ifCond, zx_if_icmp, zx_ifnull, zx_ifnonnull, zx_tableswitch, zx_lookupswitch, zx_ireturn, zx_lreturn, zx_areturn, zx_return_, zx_invokestatic, zx_invokevirtual, zi_ldi, zi_ldl, zi_lda, zi_sti, zi_stl, zi_sta, zi_inc, zi_b2, zi_d2, zi_l2, zi_dl2, zi_lc, zi_u1, zi_pp, zi_dup, zi_dup2, zi_gf, zi_pf, zi_ial, zi_ias, zi_lal, zi_las, zi_aal, zi_aln, zi_cp, zi_cmp, zi_if, zi_ic, zi_nul, zi_nnl, zi_sw, zi_ri, zi_rl, zi_ra, zi_rv, zi_iv, zi_ivr, zi_st1, zi_st2, zq_get0, zq_getS, zq_getN, zq_put0, zq_putS, zq_putN0, zq_putNS, zq_kl0, zq_klS, zq_Ln, zq_Li, zq_Lr, zq_Lf, zq_Lz, zq_Ll, zq_ft0, zq_fti, zq_ftr, zq_ftz, zq_ftf, zq_ftl, zq_pop0, zq_popS, zq_la0, zq_lai, zq_lar, zq_laz, zq_laf, zq_lal, zq_sh0, zq_sh1, zq_sh2, zq_sh3, zq_sh4, zq_f0, zq_f1, zq_f2, zq_f3, zq_u0, zq_u1, zq_u2, zq_ro0, zq_ro1, zq_ro2, zq_fv0, zq_fv2, zq_rfs, zq_rfn, zq_gD0, zq_gDS, zq_gDN, zq_lk0, zq_lkS, zq_tb0, zq_tbS, zq_o0, zq_o1, zq_o2, zq_o98, zq_o99, zq_o100, zq_o105, zq_o107, zq_o112, zq_o115, zq_o116, zq_c0, zq_c1, zq_v0, zq_v1, decide_eq_true_eq, List.toList_toArray, if_true, if_false, ite_self, and_true, true_and, and_false, false_and, true_or, or_true, or_false, false_or, not_true_eq_false, not_false_eq_true, Bool.false_eq_true, reduceCtorEq, ne_eq, ite_not, eq_self, Prod.mk.injEq, Nat.reduceEqDiff, Nat.reduceSub, Nat.reduceAdd, Nat.reduceLT, Nat.reduceLeDiff, zb_62_0, zc_62_0, zb_62_1, zc_62_1, zb_62_2, zc_62_2, zmt_0, zmt_1, zmt_2, zmt_3, zmt_16, zmt_17, zmt_30, zmt_31, zmt_32, zmt_45, zmt_46, zmt_54, zmt_62, zmt_70, zmt_78, zmt_86, zmt_87, zmt_88, zmt_89, zmt_90, zmt_91, zmt_92, zmt_93, zmt_94, zmt_95, zmt_96, zrc_0_0, zrc_0_1, zrc_0_2, zrc_0_3, zrc_0_4, zrc_0_5, zrc_0_6, zrc_2_3, zrc_16_3, zrc_30_0, zrc_31_3, zrc_45_0, zrc_45_1, zrc_45_2, zrc_45_3, zrc_45_4, zrc_86_1, zrc_86_2, zrc_89_0, zrc_89_1, zrc_89_4, zrc_89_5, zrc_89_6, zrc_89_7, zrc_89_8, s_x_at0 pn c0]
    exact hE
  · rw [if_neg c0] at hE
    obtain ⟨k, ⟨hk1, hk⟩, rfl⟩ := zNr_ex (by omega) c0
    have e1 : (nI k).toNatClampNeg = k := nI_clamp (by omega)
    rw [e1] at hE
    dsimp only at hE
    obtain ⟨g0, ⟨g1, g2, g3⟩, ⟨w0, w1, w2, w3, w4⟩, g5, g6⟩ := zx_in xp ⟨og, o6, oR, oL⟩ hk1 hk
    have hat := fun (K : Option Value → zi_M → Prop) => s_P_at_in (sc := sc) (J := J) (K := K) zIsP_2 g0 pn o6 hk1 hk
    by_cases c1 : i < 0
    · rw [if_pos (Or.inl c1)] at hE
      simp only [zi_wp_c, zi_wK_if, zi_wK_go, zi_wK_no, zi_wK_b, zi_wK_r, zi_wK_c, zi_cc_i, zi_cc_n, zi_B_if, zi_ifF, zx_nop, zx_iconst, zx_bipush, zx_sipush, zx_lconst, zx_ldc2_w, zx_aconst_null, zx_iload, zx_iload_n, zx_lload, zx_lload_n, zx_aload, zx_aload_n, zx_istore, zx_istore_n, zx_lstore, zx_lstore_n, zx_astore, zx_astore_n, zx_iinc, zx_iadd, zx_isub, zx_imul, zx_iand, zx_ior, zx_ishl, zx_ishr, zx_idiv, zx_irem, zx_ladd, zx_ldiv, zx_lrem, zx_lcmp, zx_i2l, zx_i2b, zx_i2s, zx_pop, zx_dup, zx_dup2, zx_getfield, zx_putfield, zx_getstatic, zx_iaload, zx_iastore, zx_laload, zx_lastore, zx_aaload, zx_arraylength, zx_goto, zx_ifCond, zx_if_icmp, zx_ifnull, zx_ifnonnull, zx_tableswitch, zx_lookupswitch, zx_ireturn, zx_lreturn, zx_areturn, zx_return_, zx_invokestatic, zx_invokevirtual, zi_ldi, zi_ldl, zi_lda, zi_sti, zi_stl, zi_sta, zi_inc, zi_b2, zi_d2, zi_l2, zi_dl2, zi_lc, zi_u1, zi_pp, zi_dup, zi_dup2, zi_gf, zi_pf, zi_ial, zi_ias, zi_lal, zi_las, zi_aal, zi_aln, zi_cp, zi_cmp, zi_if, zi_ic, zi_nul, zi_nnl, zi_sw, zi_ri, zi_rl, zi_ra, zi_rv, zi_iv, zi_ivr, zi_st1, zi_st2, zq_get0, zq_getS, zq_getN, zq_put0, zq_putS, zq_putN0, zq_putNS, zq_kl0, zq_klS, zq_Ln, zq_Li, zq_Lr, zq_Lf, zq_Lz, zq_Ll, zq_ft0, zq_fti, zq_ftr, zq_ftz, zq_ftf, zq_ftl, zq_pop0, zq_popS, zq_la0, zq_lai, zq_lar, zq_laz, zq_laf, zq_lal, zq_sh0, zq_sh1, zq_sh2, zq_sh3, zq_sh4, zq_f0, zq_f1, zq_f2, zq_f3, zq_u0, zq_u1, zq_u2, zq_ro0, zq_ro1, zq_ro2, zq_fv0, zq_fv2, zq_rfs, zq_rfn, zq_gD0, zq_gDS, zq_gDN, zq_lk0, zq_lkS, zq_tb0, zq_tbS, zq_o0, zq_o1, zq_o2, zq_o98, zq_o99, zq_o100, zq_o105, zq_o107, zq_o112, zq_o115, zq_o116, zq_c0, zq_c1, zq_v0, zq_v1, decide_eq_true_eq, List.toList_toArray, if_true, if_false, ite_self, and_true, true_and, and_false, false_and, true_or, or_true, or_false, false_or, not_true_eq_false, not_false_eq_true, Bool.false_eq_true, reduceCtorEq, ne_eq, ite_not, eq_self, Prod.mk.injEq, Nat.reduceEqDiff, Nat.reduceSub, Nat.reduceAdd, Nat.reduceLT, Nat.reduceLeDiff, zb_62_0, zc_62_0, zb_62_1, zc_62_1, zb_62_2, zc_62_2, zmt_0, zmt_1, zmt_2, zmt_3, zmt_16, zmt_17, zmt_30, zmt_31, zmt_32, zmt_45, zmt_46, zmt_54, zmt_62, zmt_70, zmt_78, zmt_86, zmt_87, zmt_88, zmt_89, zmt_90, zmt_91, zmt_92, zmt_93, zmt_94, zmt_95, zmt_96, zrc_0_0, zrc_0_1, zrc_0_2, zrc_0_3, zrc_0_4, zrc_0_5, zrc_0_6, zrc_2_3, zrc_16_3, zrc_30_0, zrc_31_3, zrc_45_0, zrc_45_1, zrc_45_2, zrc_45_3, zrc_45_4, zrc_86_1, zrc_86_2, zrc_89_0, zrc_89_1, zrc_89_4, zrc_89_5, zrc_89_6, zrc_89_7, zrc_89_8, hat, g1, s_R_hasPlace g1, c1]
      exact hE
    · by_cases c2 : nI (rd (k - 1)).2.2.1 ≤ i
      · rw [if_pos (Or.inr c2)] at hE
        simp only [zi_wp_c, zi_wK_if, zi_wK_go, zi_wK_no, zi_wK_b, zi_wK_r, zi_wK_c, zi_cc_i, zi_cc_n, zi_B_if, zi_ifF, zx_nop, zx_iconst, zx_bipush, zx_sipush, zx_lconst, zx_ldc2_w, zx_aconst_null, zx_iload, zx_iload_n, zx_lload, zx_lload_n, zx_aload, zx_aload_n, zx_istore, zx_istore_n, zx_lstore, zx_lstore_n, zx_astore, zx_astore_n, zx_iinc, zx_iadd, zx_isub, zx_imul, zx_iand, zx_ior, zx_ishl, zx_ishr, zx_idiv, zx_irem, zx_ladd, zx_ldiv, zx_lrem, zx_lcmp, zx_i2l, zx_i2b, zx_i2s, zx_pop, zx_dup, zx_dup2, zx_getfield, zx_putfield, zx_getstatic, zx_iaload, zx_iastore, zx_laload, zx_lastore, zx_aaload, zx_arraylength, zx_goto, zx_ifCond, zx_if_icmp, zx_ifnull, zx_ifnonnull, zx_tableswitch, zx_lookupswitch, zx_ireturn, zx_lreturn, zx_areturn, zx_return_, zx_invokestatic, zx_invokevirtual, zi_ldi, zi_ldl, zi_lda, zi_sti, zi_stl, zi_sta, zi_inc, zi_b2, zi_d2, zi_l2, zi_dl2, zi_lc, zi_u1, zi_pp, zi_dup, zi_dup2, zi_gf, zi_pf, zi_ial, zi_ias, zi_lal, zi_las, zi_aal, zi_aln, zi_cp, zi_cmp, zi_if, zi_ic, zi_nul, zi_nnl, zi_sw, zi_ri, zi_rl, zi_ra, zi_rv, zi_iv, zi_ivr, zi_st1, zi_st2, zq_get0, zq_getS, zq_getN, zq_put0, zq_putS, zq_putN0, zq_putNS, zq_kl0, zq_klS, zq_Ln, zq_Li, zq_Lr, zq_Lf, zq_Lz, zq_Ll, zq_ft0, zq_fti, zq_ftr, zq_ftz, zq_ftf, zq_ftl, zq_pop0, zq_popS, zq_la0, zq_lai, zq_lar, zq_laz, zq_laf, zq_lal, zq_sh0, zq_sh1, zq_sh2, zq_sh3, zq_sh4, zq_f0, zq_f1, zq_f2, zq_f3, zq_u0, zq_u1, zq_u2, zq_ro0, zq_ro1, zq_ro2, zq_fv0, zq_fv2, zq_rfs, zq_rfn, zq_gD0, zq_gDS, zq_gDN, zq_lk0, zq_lkS, zq_tb0, zq_tbS, zq_o0, zq_o1, zq_o2, zq_o98, zq_o99, zq_o100, zq_o105, zq_o107, zq_o112, zq_o115, zq_o116, zq_c0, zq_c1, zq_v0, zq_v1, decide_eq_true_eq, List.toList_toArray, if_true, if_false, ite_self, and_true, true_and, and_false, false_and, true_or, or_true, or_false, false_or, not_true_eq_false, not_false_eq_true, Bool.false_eq_true, reduceCtorEq, ne_eq, ite_not, eq_self, Prod.mk.injEq, Nat.reduceEqDiff, Nat.reduceSub, Nat.reduceAdd, Nat.reduceLT, Nat.reduceLeDiff, zb_62_0, zc_62_0, zb_62_1, zc_62_1, zb_62_2, zc_62_2, zmt_0, zmt_1, zmt_2, zmt_3, zmt_16, zmt_17, zmt_30, zmt_31, zmt_32, zmt_45, zmt_46, zmt_54, zmt_62, zmt_70, zmt_78, zmt_86, zmt_87, zmt_88, zmt_89, zmt_90, zmt_91, zmt_92, zmt_93, zmt_94, zmt_95, zmt_96, zrc_0_0, zrc_0_1, zrc_0_2, zrc_0_3, zrc_0_4, zrc_0_5, zrc_0_6, zrc_2_3, zrc_16_3, zrc_30_0, zrc_31_3, zrc_45_0, zrc_45_1, zrc_45_2, zrc_45_3, zrc_45_4, zrc_86_1, zrc_86_2, zrc_89_0, zrc_89_1, zrc_89_4, zrc_89_5, zrc_89_6, zrc_89_7, zrc_89_8, hat, g1, s_R_hasPlace g1, c1, w2, c2]
        exact hE
      · rw [if_neg (fun h => h.elim c1 c2)] at hE
        obtain ⟨j, hj, rfl⟩ := zpl_ex w3.2.2.2 (fun h => h.elim c1 c2)
        have e2 : (nI j).toNatClampNeg = j := nI_clamp (by omega)
        have hv : zi_vin (nI j) 5 = true := zv_nI (by omega) (by omega)
        rw [e2] at hE
        have w5 := (w4 j hj).1
        simp only [zi_wp_c, zi_wK_if, zi_wK_go, zi_wK_no, zi_wK_b, zi_wK_r, zi_wK_c, zi_cc_i, zi_cc_n, zi_B_if, zi_ifF, zx_nop, zx_iconst, zx_bipush, zx_sipush, zx_lconst, zx_ldc2_w, zx_aconst_null, zx_iload, zx_iload_n, zx_lload, zx_lload_n, zx_aload, zx_aload_n, zx_istore, zx_istore_n, zx_lstore, zx_lstore_n, zx_astore, zx_astore_n, zx_iinc, zx_iadd, zx_isub, zx_imul, zx_iand, zx_ior, zx_ishl, zx_ishr, zx_idiv, zx_irem, zx_ladd, zx_ldiv, zx_lrem, zx_lcmp, zx_i2l, zx_i2b, zx_i2s, zx_pop, zx_dup, zx_dup2, zx_getfield, zx_putfield, zx_getstatic, zx_iaload, zx_iastore, zx_laload, zx_lastore, zx_aaload, zx_arraylength, zx_goto, zx_ifCond, zx_if_icmp, zx_ifnull, zx_ifnonnull, zx_tableswitch, zx_lookupswitch, zx_ireturn, zx_lreturn, zx_areturn, zx_return_, zx_invokestatic, zx_invokevirtual, zi_ldi, zi_ldl, zi_lda, zi_sti, zi_stl, zi_sta, zi_inc, zi_b2, zi_d2, zi_l2, zi_dl2, zi_lc, zi_u1, zi_pp, zi_dup, zi_dup2, zi_gf, zi_pf, zi_ial, zi_ias, zi_lal, zi_las, zi_aal, zi_aln, zi_cp, zi_cmp, zi_if, zi_ic, zi_nul, zi_nnl, zi_sw, zi_ri, zi_rl, zi_ra, zi_rv, zi_iv, zi_ivr, zi_st1, zi_st2, zq_get0, zq_getS, zq_getN, zq_put0, zq_putS, zq_putN0, zq_putNS, zq_kl0, zq_klS, zq_Ln, zq_Li, zq_Lr, zq_Lf, zq_Lz, zq_Ll, zq_ft0, zq_fti, zq_ftr, zq_ftz, zq_ftf, zq_ftl, zq_pop0, zq_popS, zq_la0, zq_lai, zq_lar, zq_laz, zq_laf, zq_lal, zq_sh0, zq_sh1, zq_sh2, zq_sh3, zq_sh4, zq_f0, zq_f1, zq_f2, zq_f3, zq_u0, zq_u1, zq_u2, zq_ro0, zq_ro1, zq_ro2, zq_fv0, zq_fv2, zq_rfs, zq_rfn, zq_gD0, zq_gDS, zq_gDN, zq_lk0, zq_lkS, zq_tb0, zq_tbS, zq_o0, zq_o1, zq_o2, zq_o98, zq_o99, zq_o100, zq_o105, zq_o107, zq_o112, zq_o115, zq_o116, zq_c0, zq_c1, zq_v0, zq_v1, decide_eq_true_eq, List.toList_toArray, if_true, if_false, ite_self, and_true, true_and, and_false, false_and, true_or, or_true, or_false, false_or, not_true_eq_false, not_false_eq_true, Bool.false_eq_true, reduceCtorEq, ne_eq, ite_not, eq_self, Prod.mk.injEq, Nat.reduceEqDiff, Nat.reduceSub, Nat.reduceAdd, Nat.reduceLT, Nat.reduceLeDiff, zb_62_0, zc_62_0, zb_62_1, zc_62_1, zb_62_2, zc_62_2, zmt_0, zmt_1, zmt_2, zmt_3, zmt_16, zmt_17, zmt_30, zmt_31, zmt_32, zmt_45, zmt_46, zmt_54, zmt_62, zmt_70, zmt_78, zmt_86, zmt_87, zmt_88, zmt_89, zmt_90, zmt_91, zmt_92, zmt_93, zmt_94, zmt_95, zmt_96, zrc_0_0, zrc_0_1, zrc_0_2, zrc_0_3, zrc_0_4, zrc_0_5, zrc_0_6, zrc_2_3, zrc_16_3, zrc_30_0, zrc_31_3, zrc_45_0, zrc_45_1, zrc_45_2, zrc_45_3, zrc_45_4, zrc_86_1, zrc_86_2, zrc_89_0, zrc_89_1, zrc_89_4, zrc_89_5, zrc_89_6, zrc_89_7, zrc_89_8, hat, g1, g2, g3, s_R_hasPlace g1, c1, w2, c2, d1, hv, e2, w5]
        exact hE
theorem y_sign {r i : Int32} : zSy 135 [some (.int r), some (.int i)] S S (.int (zF_sign S r i)) := by
  intro sc I J K hY hO hK
  obtain ⟨⟨ft, tr⟩, ⟨ln, sz, cl⟩, ⟨ring, n, rd⟩, nr, rr, rv⟩ := S
  obtain ⟨⟨yf, yt⟩, ys, yp, yr⟩ := id hY
  obtain ⟨os, ⟨og, o6, oR, oL⟩, o8, oq⟩ := id hO
  dsimp only at yf yt ys yp yr os og o6 oR oL o8 oq hK ⊢
  obtain ⟨yn, yv, yl⟩ := id yp
  have hE := hK I J hY (fun _ _ => rfl) (fun _ _ => rfl)
  unfold zF_sign at hE
  have d1 : ¬ (1 : Int32) = 0 := by decide
  by_cases c0 : zNr n r
  · rw [if_pos c0] at hE
    simp only [zi_wp_c, zi_wK_if, zi_wK_go, zi_wK_no, zi_wK_b, zi_wK_r, zi_wK_c, zi_cc_i, zi_cc_n, zi_B_if, zi_ifF, zx_nop, zx_iconst, zx_bipush, zx_sipush, zx_lconst, zx_ldc2_w, zx_aconst_null, zx_iload, zx_iload_n, zx_lload, zx_lload_n, zx_aload, zx_aload_n, zx_istore, zx_istore_n, zx_lstore, zx_lstore_n, zx_astore, zx_astore_n, zx_iinc, zx_iadd, zx_isub, zx_imul, zx_iand, zx_ior, zx_ishl, zx_ishr, zx_idiv, zx_irem, zx_ladd, zx_ldiv, zx_lrem, zx_lcmp, zx_i2l, zx_i2b, zx_i2s, zx_pop, zx_dup, zx_dup2, zx_getfield, zx_putfield, zx_getstatic, zx_iaload, zx_iastore, zx_laload, zx_lastore, zx_aaload, zx_arraylength, zx_goto, zx_ifCond, zx_if_icmp, zx_ifnull, zx_ifnonnull, zx_tableswitch, zx_lookupswitch, zx_ireturn, zx_lreturn, zx_areturn, zx_return_, zx_invokestatic, zx_invokevirtual, zi_ldi, zi_ldl, zi_lda, zi_sti, zi_stl, zi_sta, zi_inc, zi_b2, zi_d2, zi_l2, zi_dl2, zi_lc, zi_u1, zi_pp, zi_dup, zi_dup2, zi_gf, zi_pf, zi_ial, zi_ias, zi_lal, zi_las, zi_aal, zi_aln, zi_cp, zi_cmp, zi_if, zi_ic, zi_nul, zi_nnl, zi_sw, zi_ri, zi_rl, zi_ra, zi_rv, zi_iv, zi_ivr, zi_st1, zi_st2, zq_get0, zq_getS, zq_getN, zq_put0, zq_putS, zq_putN0, zq_putNS, zq_kl0, zq_klS, zq_Ln, zq_Li, zq_Lr, zq_Lf, zq_Lz, zq_Ll, zq_ft0, zq_fti, zq_ftr, zq_ftz, zq_ftf, zq_ftl, zq_pop0, zq_popS, zq_la0, zq_lai, zq_lar, zq_laz, zq_laf, zq_lal, zq_sh0, zq_sh1, zq_sh2, zq_sh3, zq_sh4, zq_f0, zq_f1, zq_f2, zq_f3, zq_u0, zq_u1, zq_u2, zq_ro0, zq_ro1, zq_ro2, zq_fv0, zq_fv2, zq_rfs, zq_rfn, zq_gD0, zq_gDS, zq_gDN, zq_lk0, zq_lkS, zq_tb0, zq_tbS, zq_o0, zq_o1, zq_o2, zq_o98, zq_o99, zq_o100, zq_o105, zq_o107, zq_o112, zq_o115, zq_o116, zq_c0, zq_c1, zq_v0, zq_v1, decide_eq_true_eq, List.toList_toArray, if_true, if_false, ite_self, and_true, true_and, and_false, false_and, true_or, or_true, or_false, false_or, not_true_eq_false, not_false_eq_true, Bool.false_eq_true, reduceCtorEq, ne_eq, ite_not, eq_self, Prod.mk.injEq, Nat.reduceEqDiff, Nat.reduceSub, Nat.reduceAdd, Nat.reduceLT, Nat.reduceLeDiff, zb_135_0, zc_135_0, zb_135_1, zc_135_1, zb_135_2, zc_135_2, zmt_111, zmt_112, zmt_113, zmt_114, zmt_115, zmt_116, zmt_117, zmt_118, zmt_119, zmt_120, zmt_121, zmt_122, zmt_123, zmt_124, zmt_125, zmt_126, zmt_127, zmt_128, zmt_129, zmt_130, zmt_131, zmt_132, zmt_133, zmt_134, zmt_135, zmt_136, zrc_111_2, zrc_111_3, zrc_111_4, zrc_111_6, zrc_111_7, zrc_111_8, zrc_111_9, zrc_111_10, zrc_111_14, zrc_111_15, zrc_111_16, zrc_111_17, zrc_111_18, zrc_111_19, zrc_111_20, zrc_111_21, zrc_111_22, zrc_111_24, zrc_111_25, zrc_111_26, zrc_111_27, zrc_111_28, zrc_111_29, zrc_111_31, zrc_111_32, s_m_isR0 yn c0]
    exact hE
  · rw [if_neg c0] at hE
    have hi := fun (K : Option Value → zi_M → Prop) => s_m_isR1 (sc := sc) (J := J) (K := K) yn c0
    obtain ⟨k, ⟨hk1, hk⟩, rfl⟩ := zNr_ex (by omega) c0
    have e1 : (nI k).toNatClampNeg = k := nI_clamp (by omega)
    have hv : zi_vin (nI k) 7 = true := zv_nI (by omega) (by omega)
    rw [e1] at hE
    dsimp only at hE
    have ho : zPok ring n rd := ⟨og, o6, oR, oL⟩
    obtain ⟨y0, y1, y2, y3, y4⟩ := zy_in yp ho hk1 hk
    obtain ⟨z0, z1, z2, z3⟩ := oR (k - 1) (by omega)
    by_cases c1 : i < 0
    · rw [if_pos (Or.inl c1)] at hE
      simp only [zi_wp_c, zi_wK_if, zi_wK_go, zi_wK_no, zi_wK_b, zi_wK_r, zi_wK_c, zi_cc_i, zi_cc_n, zi_B_if, zi_ifF, zx_nop, zx_iconst, zx_bipush, zx_sipush, zx_lconst, zx_ldc2_w, zx_aconst_null, zx_iload, zx_iload_n, zx_lload, zx_lload_n, zx_aload, zx_aload_n, zx_istore, zx_istore_n, zx_lstore, zx_lstore_n, zx_astore, zx_astore_n, zx_iinc, zx_iadd, zx_isub, zx_imul, zx_iand, zx_ior, zx_ishl, zx_ishr, zx_idiv, zx_irem, zx_ladd, zx_ldiv, zx_lrem, zx_lcmp, zx_i2l, zx_i2b, zx_i2s, zx_pop, zx_dup, zx_dup2, zx_getfield, zx_putfield, zx_getstatic, zx_iaload, zx_iastore, zx_laload, zx_lastore, zx_aaload, zx_arraylength, zx_goto, zx_ifCond, zx_if_icmp, zx_ifnull, zx_ifnonnull, zx_tableswitch, zx_lookupswitch, zx_ireturn, zx_lreturn, zx_areturn, zx_return_, zx_invokestatic, zx_invokevirtual, zi_ldi, zi_ldl, zi_lda, zi_sti, zi_stl, zi_sta, zi_inc, zi_b2, zi_d2, zi_l2, zi_dl2, zi_lc, zi_u1, zi_pp, zi_dup, zi_dup2, zi_gf, zi_pf, zi_ial, zi_ias, zi_lal, zi_las, zi_aal, zi_aln, zi_cp, zi_cmp, zi_if, zi_ic, zi_nul, zi_nnl, zi_sw, zi_ri, zi_rl, zi_ra, zi_rv, zi_iv, zi_ivr, zi_st1, zi_st2, zq_get0, zq_getS, zq_getN, zq_put0, zq_putS, zq_putN0, zq_putNS, zq_kl0, zq_klS, zq_Ln, zq_Li, zq_Lr, zq_Lf, zq_Lz, zq_Ll, zq_ft0, zq_fti, zq_ftr, zq_ftz, zq_ftf, zq_ftl, zq_pop0, zq_popS, zq_la0, zq_lai, zq_lar, zq_laz, zq_laf, zq_lal, zq_sh0, zq_sh1, zq_sh2, zq_sh3, zq_sh4, zq_f0, zq_f1, zq_f2, zq_f3, zq_u0, zq_u1, zq_u2, zq_ro0, zq_ro1, zq_ro2, zq_fv0, zq_fv2, zq_rfs, zq_rfn, zq_gD0, zq_gDS, zq_gDN, zq_lk0, zq_lkS, zq_tb0, zq_tbS, zq_o0, zq_o1, zq_o2, zq_o98, zq_o99, zq_o100, zq_o105, zq_o107, zq_o112, zq_o115, zq_o116, zq_c0, zq_c1, zq_v0, zq_v1, decide_eq_true_eq, List.toList_toArray, if_true, if_false, ite_self, and_true, true_and, and_false, false_and, true_or, or_true, or_false, false_or, not_true_eq_false, not_false_eq_true, Bool.false_eq_true, reduceCtorEq, ne_eq, ite_not, eq_self, Prod.mk.injEq, Nat.reduceEqDiff, Nat.reduceSub, Nat.reduceAdd, Nat.reduceLT, Nat.reduceLeDiff, zb_135_0, zc_135_0, zb_135_1, zc_135_1, zb_135_2, zc_135_2, zmt_111, zmt_112, zmt_113, zmt_114, zmt_115, zmt_116, zmt_117, zmt_118, zmt_119, zmt_120, zmt_121, zmt_122, zmt_123, zmt_124, zmt_125, zmt_126, zmt_127, zmt_128, zmt_129, zmt_130, zmt_131, zmt_132, zmt_133, zmt_134, zmt_135, zmt_136, zrc_111_2, zrc_111_3, zrc_111_4, zrc_111_6, zrc_111_7, zrc_111_8, zrc_111_9, zrc_111_10, zrc_111_14, zrc_111_15, zrc_111_16, zrc_111_17, zrc_111_18, zrc_111_19, zrc_111_20, zrc_111_21, zrc_111_22, zrc_111_24, zrc_111_25, zrc_111_26, zrc_111_27, zrc_111_28, zrc_111_29, zrc_111_31, zrc_111_32, hi, d1, e1, hv, y2, s_m_within, c1]
      exact hE
    · by_cases c2 : nI (rd (k - 1)).2.2.1 ≤ i
      · rw [if_pos (Or.inr c2)] at hE
        have c3 : nI (rd (k - 1)).2.2.1 - 1 < i := by
          have := zt_ran i
          simp only [zt_eq, Int32.lt_iff_toInt_lt, Int32.le_iff_toInt_le, zt_add, zt_sub, zt_neg, zt_nI, zl_0, zl_1, zl_2, zl_3, zl_4, zl_5, zl_6, zl_7, zl_8, zl_9, zl_10, zl_16, zl_20, zl_30, zl_60, zl_1080, zl_m1, zl_m2, zl_m9] at c2 ⊢
          omega
        simp only [zi_wp_c, zi_wK_if, zi_wK_go, zi_wK_no, zi_wK_b, zi_wK_r, zi_wK_c, zi_cc_i, zi_cc_n, zi_B_if, zi_ifF, zx_nop, zx_iconst, zx_bipush, zx_sipush, zx_lconst, zx_ldc2_w, zx_aconst_null, zx_iload, zx_iload_n, zx_lload, zx_lload_n, zx_aload, zx_aload_n, zx_istore, zx_istore_n, zx_lstore, zx_lstore_n, zx_astore, zx_astore_n, zx_iinc, zx_iadd, zx_isub, zx_imul, zx_iand, zx_ior, zx_ishl, zx_ishr, zx_idiv, zx_irem, zx_ladd, zx_ldiv, zx_lrem, zx_lcmp, zx_i2l, zx_i2b, zx_i2s, zx_pop, zx_dup, zx_dup2, zx_getfield, zx_putfield, zx_getstatic, zx_iaload, zx_iastore, zx_laload, zx_lastore, zx_aaload, zx_arraylength, zx_goto, zx_ifCond, zx_if_icmp, zx_ifnull, zx_ifnonnull, zx_tableswitch, zx_lookupswitch, zx_ireturn, zx_lreturn, zx_areturn, zx_return_, zx_invokestatic, zx_invokevirtual, zi_ldi, zi_ldl, zi_lda, zi_sti, zi_stl, zi_sta, zi_inc, zi_b2, zi_d2, zi_l2, zi_dl2, zi_lc, zi_u1, zi_pp, zi_dup, zi_dup2, zi_gf, zi_pf, zi_ial, zi_ias, zi_lal, zi_las, zi_aal, zi_aln, zi_cp, zi_cmp, zi_if, zi_ic, zi_nul, zi_nnl, zi_sw, zi_ri, zi_rl, zi_ra, zi_rv, zi_iv, zi_ivr, zi_st1, zi_st2, zq_get0, zq_getS, zq_getN, zq_put0, zq_putS, zq_putN0, zq_putNS, zq_kl0, zq_klS, zq_Ln, zq_Li, zq_Lr, zq_Lf, zq_Lz, zq_Ll, zq_ft0, zq_fti, zq_ftr, zq_ftz, zq_ftf, zq_ftl, zq_pop0, zq_popS, zq_la0, zq_lai, zq_lar, zq_laz, zq_laf, zq_lal, zq_sh0, zq_sh1, zq_sh2, zq_sh3, zq_sh4, zq_f0, zq_f1, zq_f2, zq_f3, zq_u0, zq_u1, zq_u2, zq_ro0, zq_ro1, zq_ro2, zq_fv0, zq_fv2, zq_rfs, zq_rfn, zq_gD0, zq_gDS, zq_gDN, zq_lk0, zq_lkS, zq_tb0, zq_tbS, zq_o0, zq_o1, zq_o2, zq_o98, zq_o99, zq_o100, zq_o105, zq_o107, zq_o112, zq_o115, zq_o116, zq_c0, zq_c1, zq_v0, zq_v1, decide_eq_true_eq, List.toList_toArray, if_true, if_false, ite_self, and_true, true_and, and_false, false_and, true_or, or_true, or_false, false_or, not_true_eq_false, not_false_eq_true, Bool.false_eq_true, reduceCtorEq, ne_eq, ite_not, eq_self, Prod.mk.injEq, Nat.reduceEqDiff, Nat.reduceSub, Nat.reduceAdd, Nat.reduceLT, Nat.reduceLeDiff, zb_135_0, zc_135_0, zb_135_1, zc_135_1, zb_135_2, zc_135_2, zmt_111, zmt_112, zmt_113, zmt_114, zmt_115, zmt_116, zmt_117, zmt_118, zmt_119, zmt_120, zmt_121, zmt_122, zmt_123, zmt_124, zmt_125, zmt_126, zmt_127, zmt_128, zmt_129, zmt_130, zmt_131, zmt_132, zmt_133, zmt_134, zmt_135, zmt_136, zrc_111_2, zrc_111_3, zrc_111_4, zrc_111_6, zrc_111_7, zrc_111_8, zrc_111_9, zrc_111_10, zrc_111_14, zrc_111_15, zrc_111_16, zrc_111_17, zrc_111_18, zrc_111_19, zrc_111_20, zrc_111_21, zrc_111_22, zrc_111_24, zrc_111_25, zrc_111_26, zrc_111_27, zrc_111_28, zrc_111_29, zrc_111_31, zrc_111_32, hi, d1, e1, hv, y2, s_m_within, c1, c3]
        exact hE
      · rw [if_neg (fun h => h.elim c1 c2)] at hE
        obtain ⟨j, hj, rfl⟩ := zpl_ex z2.2 (fun h => h.elim c1 c2)
        have c3 : ¬ nI (rd (k - 1)).2.2.1 - 1 < nI j := zpred_nlt hj (by omega)
        have e2 : (nI j).toNatClampNeg = j := nI_clamp (by omega)
        have e3 : (nI (5 * k + j)).toNatClampNeg = 5 * k + j := nI_clamp (by omega)
        have hv2 : zi_vin (nI (5 * k + j)) 35 = true := zv_nI (by omega) (by omega)
        rw [e2] at hE
        have y5 := y3 j hj
        simp only [zi_wp_c, zi_wK_if, zi_wK_go, zi_wK_no, zi_wK_b, zi_wK_r, zi_wK_c, zi_cc_i, zi_cc_n, zi_B_if, zi_ifF, zx_nop, zx_iconst, zx_bipush, zx_sipush, zx_lconst, zx_ldc2_w, zx_aconst_null, zx_iload, zx_iload_n, zx_lload, zx_lload_n, zx_aload, zx_aload_n, zx_istore, zx_istore_n, zx_lstore, zx_lstore_n, zx_astore, zx_astore_n, zx_iinc, zx_iadd, zx_isub, zx_imul, zx_iand, zx_ior, zx_ishl, zx_ishr, zx_idiv, zx_irem, zx_ladd, zx_ldiv, zx_lrem, zx_lcmp, zx_i2l, zx_i2b, zx_i2s, zx_pop, zx_dup, zx_dup2, zx_getfield, zx_putfield, zx_getstatic, zx_iaload, zx_iastore, zx_laload, zx_lastore, zx_aaload, zx_arraylength, zx_goto, zx_ifCond, zx_if_icmp, zx_ifnull, zx_ifnonnull, zx_tableswitch, zx_lookupswitch, zx_ireturn, zx_lreturn, zx_areturn, zx_return_, zx_invokestatic, zx_invokevirtual, zi_ldi, zi_ldl, zi_lda, zi_sti, zi_stl, zi_sta, zi_inc, zi_b2, zi_d2, zi_l2, zi_dl2, zi_lc, zi_u1, zi_pp, zi_dup, zi_dup2, zi_gf, zi_pf, zi_ial, zi_ias, zi_lal, zi_las, zi_aal, zi_aln, zi_cp, zi_cmp, zi_if, zi_ic, zi_nul, zi_nnl, zi_sw, zi_ri, zi_rl, zi_ra, zi_rv, zi_iv, zi_ivr, zi_st1, zi_st2, zq_get0, zq_getS, zq_getN, zq_put0, zq_putS, zq_putN0, zq_putNS, zq_kl0, zq_klS, zq_Ln, zq_Li, zq_Lr, zq_Lf, zq_Lz, zq_Ll, zq_ft0, zq_fti, zq_ftr, zq_ftz, zq_ftf, zq_ftl, zq_pop0, zq_popS, zq_la0, zq_lai, zq_lar, zq_laz, zq_laf, zq_lal, zq_sh0, zq_sh1, zq_sh2, zq_sh3, zq_sh4, zq_f0, zq_f1, zq_f2, zq_f3, zq_u0, zq_u1, zq_u2, zq_ro0, zq_ro1, zq_ro2, zq_fv0, zq_fv2, zq_rfs, zq_rfn, zq_gD0, zq_gDS, zq_gDN, zq_lk0, zq_lkS, zq_tb0, zq_tbS, zq_o0, zq_o1, zq_o2, zq_o98, zq_o99, zq_o100, zq_o105, zq_o107, zq_o112, zq_o115, zq_o116, zq_c0, zq_c1, zq_v0, zq_v1, decide_eq_true_eq, List.toList_toArray, if_true, if_false, ite_self, and_true, true_and, and_false, false_and, true_or, or_true, or_false, false_or, not_true_eq_false, not_false_eq_true, Bool.false_eq_true, reduceCtorEq, ne_eq, ite_not, eq_self, Prod.mk.injEq, Nat.reduceEqDiff, Nat.reduceSub, Nat.reduceAdd, Nat.reduceLT, Nat.reduceLeDiff, zb_135_0, zc_135_0, zb_135_1, zc_135_1, zb_135_2, zc_135_2, zmt_111, zmt_112, zmt_113, zmt_114, zmt_115, zmt_116, zmt_117, zmt_118, zmt_119, zmt_120, zmt_121, zmt_122, zmt_123, zmt_124, zmt_125, zmt_126, zmt_127, zmt_128, zmt_129, zmt_130, zmt_131, zmt_132, zmt_133, zmt_134, zmt_135, zmt_136, zrc_111_2, zrc_111_3, zrc_111_4, zrc_111_6, zrc_111_7, zrc_111_8, zrc_111_9, zrc_111_10, zrc_111_14, zrc_111_15, zrc_111_16, zrc_111_17, zrc_111_18, zrc_111_19, zrc_111_20, zrc_111_21, zrc_111_22, zrc_111_24, zrc_111_25, zrc_111_26, zrc_111_27, zrc_111_28, zrc_111_29, zrc_111_31, zrc_111_32, hi, d1, e1, hv, y2, s_m_within, c1, c3, zn_5, hv2, e3, y5]
        exact hE
/-- spun -/
def zF_spun (S : zS) (r v : Int32) : zS × Int32 := if zNr S.2.2.1.2.1 r then (S, -1) else if v < 1 ∨ 9 < v then (S, -2) else
  ((S.1, S.2.1, (S.2.2.1.1, S.2.2.1.2.1, va_up S.2.2.1.2.2 (r.toNatClampNeg - 1) ((S.2.2.1.2.2 (r.toNatClampNeg - 1)).1, v.toNatClampNeg, (S.2.2.1.2.2 (r.toNatClampNeg - 1)).2.2)), S.2.2.2), nI (S.2.2.1.2.2 (r.toNatClampNeg - 1)).2.1)
theorem zsp_ex {v : Int32} (h : ¬ (v < 1 ∨ 9 < v)) : ∃ w, (1 ≤ w ∧ w ≤ 9) ∧ v = nI w := zNr_ex (n := 9) (by omega) h
theorem zsp_rd {rd : Nat → zRt} {k w : Nat} (r : Nat) : (va_up rd k ((rd k).1, w, (rd k).2.2) r).2.2 = (rd r).2.2 := by
  unfold va_up
  by_cases h : r = k
  · rw [if_pos h, h]
  · rw [if_neg h]
theorem zsp_lp {rd : Nat → zRt} {ring k w : Nat} (r : Nat) : zlp ring (va_up rd k ((rd k).1, w, (rd k).2.2)) r = zlp ring rd r := zlp_cong r (fun q _ => by unfold zuR zmR; rw [zsp_rd q]; exact ⟨rfl, rfl⟩)
theorem zsp_ok {ring n k w : Nat} {rd : Nat → zRt} (h : zPok ring n rd) (hw : 1 ≤ w ∧ w ≤ 9) : zPok ring n (va_up rd k ((rd k).1, w, (rd k).2.2)) := by
  obtain ⟨h1, h2, h3, h4⟩ := h
  refine ⟨h1, h2, fun r hr => ?_, fun r hr => by rw [zsp_lp]; exact h4 r hr⟩
  have := h3 r hr
  unfold va_up
  by_cases e : r = k
  · subst e
    rw [if_pos rfl]
    exact ⟨this.1, hw, this.2.2⟩
  · rw [if_neg e]
    exact this
theorem o_spun {r v : Int32} (h : zOk S) : zOk (zF_spun S r v).1 := by
  unfold zF_spun
  by_cases c0 : zNr S.2.2.1.2.1 r
  · rw [if_pos c0]; exact h
  · rw [if_neg c0]
    by_cases c1 : v < 1 ∨ 9 < v
    · rw [if_pos c1]; exact h
    · rw [if_neg c1]
      obtain ⟨w, hw, rfl⟩ := zsp_ex c1
      rw [show (nI w).toNatClampNeg = w from nI_clamp (by omega)]
      exact ⟨h.1, zsp_ok h.2.1 hw, h.2.2⟩
theorem x_spun {r v : Int32} : zSx 64 [some (.int r), some (.int v)] S (zF_spun S r v).1 (.int (zF_spun S r v).2) := by
  intro sc I J K hX hO hK
  obtain ⟨⟨ft, tr⟩, ⟨ln, sz, cl⟩, ⟨ring, n, rd⟩, nr, rr, rv⟩ := S
  obtain ⟨⟨xf, xt⟩, xs, xp, xr, xl, xq, x1, x2⟩ := id hX
  obtain ⟨os, ⟨og, o6, oR, oL⟩, o8, oq⟩ := id hO
  dsimp only at xf xt xs xp xr xl os og o6 oR oL o8 oq hK ⊢
  obtain ⟨xb, xps, xpl⟩ := id xp
  obtain ⟨⟨pr, pn⟩, ⟨pr60, pn6⟩, pv⟩ := id xps
  unfold zF_spun at hK
  by_cases c0 : zNr n r
  · rw [if_pos c0] at hK
    simp only [zi_wp_c, zi_wK_if, zi_wK_go, zi_wK_no, zi_wK_b, zi_wK_r, zi_wK_c, zi_cc_i, zi_cc_n, zi_B_if, zi_ifF, zx_nop, zx_iconst, zx_bipush, zx_sipush, zx_lconst, zx_ldc2_w, zx_aconst_null, zx_iload, zx_iload_n, zx_lload, zx_lload_n, zx_aload, zx_aload_n, zx_istore, zx_istore_n, zx_lstore, zx_lstore_n, zx_astore, zx_astore_n, zx_iinc, zx_iadd, zx_isub, zx_imul, zx_iand, zx_ior, zx_ishl, zx_ishr, zx_idiv, zx_irem, zx_ladd, zx_ldiv, zx_lrem, zx_lcmp, zx_i2l, zx_i2b, zx_i2s, zx_pop, zx_dup, zx_dup2, zx_getfield, zx_putfield, zx_getstatic, zx_iaload, zx_iastore, zx_laload, zx_lastore, zx_aaload, zx_arraylength, zx_goto, zx_ifCond, zx_if_icmp, zx_ifnull, zx_ifnonnull, zx_tableswitch, zx_lookupswitch, zx_ireturn, zx_lreturn, zx_areturn, zx_return_, zx_invokestatic, zx_invokevirtual, zi_ldi, zi_ldl, zi_lda, zi_sti, zi_stl, zi_sta, zi_inc, zi_b2, zi_d2, zi_l2, zi_dl2, zi_lc, zi_u1, zi_pp, zi_dup, zi_dup2, zi_gf, zi_pf, zi_ial, zi_ias, zi_lal, zi_las, zi_aal, zi_aln, zi_cp, zi_cmp, zi_if, zi_ic, zi_nul, zi_nnl, zi_sw, zi_ri, zi_rl, zi_ra, zi_rv, zi_iv, zi_ivr, zi_st1, zi_st2, zq_get0, zq_getS, zq_getN, zq_put0, zq_putS, zq_putN0, zq_putNS, zq_kl0, zq_klS, zq_Ln, zq_Li, zq_Lr, zq_Lf, zq_Lz, zq_Ll, zq_ft0, zq_fti, zq_ftr, zq_ftz, zq_ftf, zq_ftl, zq_pop0, zq_popS, zq_la0, zq_lai, zq_lar, zq_laz, zq_laf, zq_lal, zq_sh0, zq_sh1, zq_sh2, zq_sh3, zq_sh4, zq_f0, zq_f1, zq_f2, zq_f3, zq_u0, zq_u1, zq_u2, zq_ro0, zq_ro1, zq_ro2, zq_fv0, zq_fv2, zq_rfs, zq_rfn, zq_gD0, zq_gDS, zq_gDN, zq_lk0, zq_lkS, zq_tb0, zq_tbS, zq_o0, zq_o1, zq_o2, zq_o98, zq_o99, zq_o100, zq_o105, zq_o107, zq_o112, zq_o115, zq_o116, zq_c0, zq_c1, zq_v0, zq_v1, decide_eq_true_eq, List.toList_toArray, if_true, if_false, ite_self, and_true, true_and, and_false, false_and, true_or, or_true, or_false, false_or, not_true_eq_false, not_false_eq_true, Bool.false_eq_true, reduceCtorEq, ne_eq, ite_not, eq_self, Prod.mk.injEq, Nat.reduceEqDiff, Nat.reduceSub, Nat.reduceAdd, Nat.reduceLT, Nat.reduceLeDiff, zb_64_0, zc_64_0, zb_64_1, zc_64_1, zb_64_2, zc_64_2, zmt_0, zmt_1, zmt_2, zmt_3, zmt_16, zmt_17, zmt_30, zmt_31, zmt_32, zmt_45, zmt_46, zmt_54, zmt_62, zmt_70, zmt_78, zmt_86, zmt_87, zmt_88, zmt_89, zmt_90, zmt_91, zmt_92, zmt_93, zmt_94, zmt_95, zmt_96, zrc_0_0, zrc_0_1, zrc_0_2, zrc_0_3, zrc_0_4, zrc_0_5, zrc_0_6, zrc_2_3, zrc_16_3, zrc_30_0, zrc_31_3, zrc_45_0, zrc_45_1, zrc_45_2, zrc_45_3, zrc_45_4, zrc_86_1, zrc_86_2, zrc_89_0, zrc_89_1, zrc_89_4, zrc_89_5, zrc_89_6, zrc_89_7, zrc_89_8, s_x_at0 pn c0]
    exact hK _ _ hX (fun _ _ => rfl) (fun _ _ => rfl)
  · rw [if_neg c0] at hK
    obtain ⟨k, ⟨hk1, hk⟩, rfl⟩ := zNr_ex (by omega) c0
    have e1 : (nI k).toNatClampNeg = k := nI_clamp (by omega)
    rw [e1] at hK
    dsimp only at hK
    obtain ⟨g0, ⟨g1, g2, g3⟩, ⟨w0, w1, w2, w3, w4⟩, g5, g6⟩ := zx_in xp ⟨og, o6, oR, oL⟩ hk1 hk
    have hat := fun (K : Option Value → zi_M → Prop) => s_P_at_in (sc := sc) (J := J) (K := K) zIsP_2 g0 pn o6 hk1 hk
    by_cases c1 : v < 1
    · rw [if_pos (Or.inl c1)] at hK
      simp only [zi_wp_c, zi_wK_if, zi_wK_go, zi_wK_no, zi_wK_b, zi_wK_r, zi_wK_c, zi_cc_i, zi_cc_n, zi_B_if, zi_ifF, zx_nop, zx_iconst, zx_bipush, zx_sipush, zx_lconst, zx_ldc2_w, zx_aconst_null, zx_iload, zx_iload_n, zx_lload, zx_lload_n, zx_aload, zx_aload_n, zx_istore, zx_istore_n, zx_lstore, zx_lstore_n, zx_astore, zx_astore_n, zx_iinc, zx_iadd, zx_isub, zx_imul, zx_iand, zx_ior, zx_ishl, zx_ishr, zx_idiv, zx_irem, zx_ladd, zx_ldiv, zx_lrem, zx_lcmp, zx_i2l, zx_i2b, zx_i2s, zx_pop, zx_dup, zx_dup2, zx_getfield, zx_putfield, zx_getstatic, zx_iaload, zx_iastore, zx_laload, zx_lastore, zx_aaload, zx_arraylength, zx_goto, zx_ifCond, zx_if_icmp, zx_ifnull, zx_ifnonnull, zx_tableswitch, zx_lookupswitch, zx_ireturn, zx_lreturn, zx_areturn, zx_return_, zx_invokestatic, zx_invokevirtual, zi_ldi, zi_ldl, zi_lda, zi_sti, zi_stl, zi_sta, zi_inc, zi_b2, zi_d2, zi_l2, zi_dl2, zi_lc, zi_u1, zi_pp, zi_dup, zi_dup2, zi_gf, zi_pf, zi_ial, zi_ias, zi_lal, zi_las, zi_aal, zi_aln, zi_cp, zi_cmp, zi_if, zi_ic, zi_nul, zi_nnl, zi_sw, zi_ri, zi_rl, zi_ra, zi_rv, zi_iv, zi_ivr, zi_st1, zi_st2, zq_get0, zq_getS, zq_getN, zq_put0, zq_putS, zq_putN0, zq_putNS, zq_kl0, zq_klS, zq_Ln, zq_Li, zq_Lr, zq_Lf, zq_Lz, zq_Ll, zq_ft0, zq_fti, zq_ftr, zq_ftz, zq_ftf, zq_ftl, zq_pop0, zq_popS, zq_la0, zq_lai, zq_lar, zq_laz, zq_laf, zq_lal, zq_sh0, zq_sh1, zq_sh2, zq_sh3, zq_sh4, zq_f0, zq_f1, zq_f2, zq_f3, zq_u0, zq_u1, zq_u2, zq_ro0, zq_ro1, zq_ro2, zq_fv0, zq_fv2, zq_rfs, zq_rfn, zq_gD0, zq_gDS, zq_gDN, zq_lk0, zq_lkS, zq_tb0, zq_tbS, zq_o0, zq_o1, zq_o2, zq_o98, zq_o99, zq_o100, zq_o105, zq_o107, zq_o112, zq_o115, zq_o116, zq_c0, zq_c1, zq_v0, zq_v1, decide_eq_true_eq, List.toList_toArray, if_true, if_false, ite_self, and_true, true_and, and_false, false_and, true_or, or_true, or_false, false_or, not_true_eq_false, not_false_eq_true, Bool.false_eq_true, reduceCtorEq, ne_eq, ite_not, eq_self, Prod.mk.injEq, Nat.reduceEqDiff, Nat.reduceSub, Nat.reduceAdd, Nat.reduceLT, Nat.reduceLeDiff, zb_64_0, zc_64_0, zb_64_1, zc_64_1, zb_64_2, zc_64_2, zmt_0, zmt_1, zmt_2, zmt_3, zmt_16, zmt_17, zmt_30, zmt_31, zmt_32, zmt_45, zmt_46, zmt_54, zmt_62, zmt_70, zmt_78, zmt_86, zmt_87, zmt_88, zmt_89, zmt_90, zmt_91, zmt_92, zmt_93, zmt_94, zmt_95, zmt_96, zrc_0_0, zrc_0_1, zrc_0_2, zrc_0_3, zrc_0_4, zrc_0_5, zrc_0_6, zrc_2_3, zrc_16_3, zrc_30_0, zrc_31_3, zrc_45_0, zrc_45_1, zrc_45_2, zrc_45_3, zrc_45_4, zrc_86_1, zrc_86_2, zrc_89_0, zrc_89_1, zrc_89_4, zrc_89_5, zrc_89_6, zrc_89_7, zrc_89_8, hat, s_x_isNoSpun, c1]
      exact hK _ _ hX (fun _ _ => rfl) (fun _ _ => rfl)
    · by_cases c2 : 9 < v
      · rw [if_pos (Or.inr c2)] at hK
        have c2' : ¬ v ≤ 9 := Int32.not_le.mpr c2
        simp only [zi_wp_c, zi_wK_if, zi_wK_go, zi_wK_no, zi_wK_b, zi_wK_r, zi_wK_c, zi_cc_i, zi_cc_n, zi_B_if, zi_ifF, zx_nop, zx_iconst, zx_bipush, zx_sipush, zx_lconst, zx_ldc2_w, zx_aconst_null, zx_iload, zx_iload_n, zx_lload, zx_lload_n, zx_aload, zx_aload_n, zx_istore, zx_istore_n, zx_lstore, zx_lstore_n, zx_astore, zx_astore_n, zx_iinc, zx_iadd, zx_isub, zx_imul, zx_iand, zx_ior, zx_ishl, zx_ishr, zx_idiv, zx_irem, zx_ladd, zx_ldiv, zx_lrem, zx_lcmp, zx_i2l, zx_i2b, zx_i2s, zx_pop, zx_dup, zx_dup2, zx_getfield, zx_putfield, zx_getstatic, zx_iaload, zx_iastore, zx_laload, zx_lastore, zx_aaload, zx_arraylength, zx_goto, zx_ifCond, zx_if_icmp, zx_ifnull, zx_ifnonnull, zx_tableswitch, zx_lookupswitch, zx_ireturn, zx_lreturn, zx_areturn, zx_return_, zx_invokestatic, zx_invokevirtual, zi_ldi, zi_ldl, zi_lda, zi_sti, zi_stl, zi_sta, zi_inc, zi_b2, zi_d2, zi_l2, zi_dl2, zi_lc, zi_u1, zi_pp, zi_dup, zi_dup2, zi_gf, zi_pf, zi_ial, zi_ias, zi_lal, zi_las, zi_aal, zi_aln, zi_cp, zi_cmp, zi_if, zi_ic, zi_nul, zi_nnl, zi_sw, zi_ri, zi_rl, zi_ra, zi_rv, zi_iv, zi_ivr, zi_st1, zi_st2, zq_get0, zq_getS, zq_getN, zq_put0, zq_putS, zq_putN0, zq_putNS, zq_kl0, zq_klS, zq_Ln, zq_Li, zq_Lr, zq_Lf, zq_Lz, zq_Ll, zq_ft0, zq_fti, zq_ftr, zq_ftz, zq_ftf, zq_ftl, zq_pop0, zq_popS, zq_la0, zq_lai, zq_lar, zq_laz, zq_laf, zq_lal, zq_sh0, zq_sh1, zq_sh2, zq_sh3, zq_sh4, zq_f0, zq_f1, zq_f2, zq_f3, zq_u0, zq_u1, zq_u2, zq_ro0, zq_ro1, zq_ro2, zq_fv0, zq_fv2, zq_rfs, zq_rfn, zq_gD0, zq_gDS, zq_gDN, zq_lk0, zq_lkS, zq_tb0, zq_tbS, zq_o0, zq_o1, zq_o2, zq_o98, zq_o99, zq_o100, zq_o105, zq_o107, zq_o112, zq_o115, zq_o116, zq_c0, zq_c1, zq_v0, zq_v1, decide_eq_true_eq, List.toList_toArray, if_true, if_false, ite_self, and_true, true_and, and_false, false_and, true_or, or_true, or_false, false_or, not_true_eq_false, not_false_eq_true, Bool.false_eq_true, reduceCtorEq, ne_eq, ite_not, eq_self, Prod.mk.injEq, Nat.reduceEqDiff, Nat.reduceSub, Nat.reduceAdd, Nat.reduceLT, Nat.reduceLeDiff, zb_64_0, zc_64_0, zb_64_1, zc_64_1, zb_64_2, zc_64_2, zmt_0, zmt_1, zmt_2, zmt_3, zmt_16, zmt_17, zmt_30, zmt_31, zmt_32, zmt_45, zmt_46, zmt_54, zmt_62, zmt_70, zmt_78, zmt_86, zmt_87, zmt_88, zmt_89, zmt_90, zmt_91, zmt_92, zmt_93, zmt_94, zmt_95, zmt_96, zrc_0_0, zrc_0_1, zrc_0_2, zrc_0_3, zrc_0_4, zrc_0_5, zrc_0_6, zrc_2_3, zrc_16_3, zrc_30_0, zrc_31_3, zrc_45_0, zrc_45_1, zrc_45_2, zrc_45_3, zrc_45_4, zrc_86_1, zrc_86_2, zrc_89_0, zrc_89_1, zrc_89_4, zrc_89_5, zrc_89_6, zrc_89_7, zrc_89_8, hat, s_x_isNoSpun, c1, c2']
        exact hK _ _ hX (fun _ _ => rfl) (fun _ _ => rfl)
      · rw [if_neg (fun h => h.elim c1 c2)] at hK
        have c2' : v ≤ 9 := Int32.not_lt.mp c2
        obtain ⟨w, hw, rfl⟩ := zsp_ex (fun h => h.elim c1 c2)
        rw [show (nI w).toNatClampNeg = w from nI_clamp (by omega)] at hK
        simp only [zi_wp_c, zi_wK_if, zi_wK_go, zi_wK_no, zi_wK_b, zi_wK_r, zi_wK_c, zi_cc_i, zi_cc_n, zi_B_if, zi_ifF, zx_nop, zx_iconst, zx_bipush, zx_sipush, zx_lconst, zx_ldc2_w, zx_aconst_null, zx_iload, zx_iload_n, zx_lload, zx_lload_n, zx_aload, zx_aload_n, zx_istore, zx_istore_n, zx_lstore, zx_lstore_n, zx_astore, zx_astore_n, zx_iinc, zx_iadd, zx_isub, zx_imul, zx_iand, zx_ior, zx_ishl, zx_ishr, zx_idiv, zx_irem, zx_ladd, zx_ldiv, zx_lrem, zx_lcmp, zx_i2l, zx_i2b, zx_i2s, zx_pop, zx_dup, zx_dup2, zx_getfield, zx_putfield, zx_getstatic, zx_iaload, zx_iastore, zx_laload, zx_lastore, zx_aaload, zx_arraylength, zx_goto, zx_ifCond, zx_if_icmp, zx_ifnull, zx_ifnonnull, zx_tableswitch, zx_lookupswitch, zx_ireturn, zx_lreturn, zx_areturn, zx_return_, zx_invokestatic, zx_invokevirtual, zi_ldi, zi_ldl, zi_lda, zi_sti, zi_stl, zi_sta, zi_inc, zi_b2, zi_d2, zi_l2, zi_dl2, zi_lc, zi_u1, zi_pp, zi_dup, zi_dup2, zi_gf, zi_pf, zi_ial, zi_ias, zi_lal, zi_las, zi_aal, zi_aln, zi_cp, zi_cmp, zi_if, zi_ic, zi_nul, zi_nnl, zi_sw, zi_ri, zi_rl, zi_ra, zi_rv, zi_iv, zi_ivr, zi_st1, zi_st2, zq_get0, zq_getS, zq_getN, zq_put0, zq_putS, zq_putN0, zq_putNS, zq_kl0, zq_klS, zq_Ln, zq_Li, zq_Lr, zq_Lf, zq_Lz, zq_Ll, zq_ft0, zq_fti, zq_ftr, zq_ftz, zq_ftf, zq_ftl, zq_pop0, zq_popS, zq_la0, zq_lai, zq_lar, zq_laz, zq_laf, zq_lal, zq_sh0, zq_sh1, zq_sh2, zq_sh3, zq_sh4, zq_f0, zq_f1, zq_f2, zq_f3, zq_u0, zq_u1, zq_u2, zq_ro0, zq_ro1, zq_ro2, zq_fv0, zq_fv2, zq_rfs, zq_rfn, zq_gD0, zq_gDS, zq_gDN, zq_lk0, zq_lkS, zq_tb0, zq_tbS, zq_o0, zq_o1, zq_o2, zq_o98, zq_o99, zq_o100, zq_o105, zq_o107, zq_o112, zq_o115, zq_o116, zq_c0, zq_c1, zq_v0, zq_v1, decide_eq_true_eq, List.toList_toArray, if_true, if_false, ite_self, and_true, true_and, and_false, false_and, true_or, or_true, or_false, false_or, not_true_eq_false, not_false_eq_true, Bool.false_eq_true, reduceCtorEq, ne_eq, ite_not, eq_self, Prod.mk.injEq, Nat.reduceEqDiff, Nat.reduceSub, Nat.reduceAdd, Nat.reduceLT, Nat.reduceLeDiff, zb_64_0, zc_64_0, zb_64_1, zc_64_1, zb_64_2, zc_64_2, zmt_0, zmt_1, zmt_2, zmt_3, zmt_16, zmt_17, zmt_30, zmt_31, zmt_32, zmt_45, zmt_46, zmt_54, zmt_62, zmt_70, zmt_78, zmt_86, zmt_87, zmt_88, zmt_89, zmt_90, zmt_91, zmt_92, zmt_93, zmt_94, zmt_95, zmt_96, zrc_0_0, zrc_0_1, zrc_0_2, zrc_0_3, zrc_0_4, zrc_0_5, zrc_0_6, zrc_2_3, zrc_16_3, zrc_30_0, zrc_31_3, zrc_45_0, zrc_45_1, zrc_45_2, zrc_45_3, zrc_45_4, zrc_86_1, zrc_86_2, zrc_89_0, zrc_89_1, zrc_89_4, zrc_89_5, zrc_89_6, zrc_89_7, zrc_89_8, hat, s_x_isNoSpun, c1, c2', g1, w1]
        have hne : ∀ a, a ≠ 2 + 2 * k → zi_up I (2 + 2 * k) 1 (nI w) a = I a := fun a h => zu_up_ne _ h
        refine hK _ _ ⟨⟨?_, ?_⟩, xs.kept (fun a _ _ => hne a (by omega)), ⟨?_, ⟨⟨?_, ?_⟩, ⟨pr60, pn6⟩, fun q hq => ?_⟩, fun q hq => ?_⟩, xr.kept (fun a _ _ => hne a (by omega)), (xl.kept o6 (fun a _ _ => hne a (by omega))).cong (fun q => zsp_rd q), xq.kept (fun a _ _ => hne a (by omega)), x1.kept (fun a _ _ => hne a (by omega)), x2.kept (fun a _ _ => hne a (by omega)) (fun _ _ _ => rfl)⟩ (fun a h => hne a (by omega)) (fun _ _ => rfl)
        · rw [hne 0 (by omega)]; exact xf
        · rw [hne 0 (by omega)]; exact xt
        · rw [hne 2 (by omega)]; exact xb
        · rw [hne 2 (by omega)]; exact pr
        · rw [hne 2 (by omega)]; exact pn
        · by_cases e : q = k - 1
          · subst e
            have e4 : 2 + 2 + 2 * (k - 1) = 2 + 2 * k := by omega
            unfold va_up
            dsimp only
            rw [if_pos rfl, e4]
            refine ⟨?_, ?_, ?_, ?_, fun i hi => ?_⟩
            · rw [zu_up, if_pos rfl, if_neg (by omega)]; exact w0
            · rw [zu_up, if_pos rfl, if_pos rfl]
            · rw [zu_up, if_pos rfl, if_neg (by omega)]; exact w2
            · exact ⟨w3.1, hw.1, hw.2, w3.2.2.2⟩
            · rw [hne _ (by omega)]; exact w4 i hi
          · unfold va_up
            dsimp only
            rw [if_neg e]
            exact (pv q hq).kept (by rw [hne _ (by omega)]; exact ⟨rfl, rfl, rfl⟩) (fun i _ => by rw [hne _ (by omega)])
        · have hu : zuR (va_up rd (k - 1) ((rd (k - 1)).1, w, (rd (k - 1)).2.2) q) = zuR (rd q) := by unfold zuR; rw [zsp_rd q]
          dsimp only
          rw [zsp_lp, zsp_lp, hu]
          by_cases e : 2 + 2 + 2 * q = 2 + 2 * k
          · have h9 := xpl q hq
            rw [e] at h9 ⊢
            refine ⟨?_, ?_⟩
            · rw [zu_up, if_pos rfl, if_neg (by omega)]; exact h9.1
            · rw [zu_up, if_pos rfl, if_neg (by omega)]; exact h9.2
          · rw [hne _ e]
            exact xpl q hq
theorem y_spun {r v : Int32} : zSy 139 [some (.int r), some (.int v)] S (zF_spun S r v).1 (.int (zF_spun S r v).2) := by
  intro sc I J K hY hO hK
  obtain ⟨⟨ft, tr⟩, ⟨ln, sz, cl⟩, ⟨ring, n, rd⟩, nr, rr, rv⟩ := S
  obtain ⟨⟨yf, yt⟩, ys, yp, yr⟩ := id hY
  obtain ⟨os, ⟨og, o6, oR, oL⟩, o8, oq⟩ := id hO
  dsimp only at yf yt ys yp yr os og o6 oR oL o8 oq hK ⊢
  obtain ⟨yn, yv, yl⟩ := id yp
  unfold zF_spun at hK
  have d1 : ¬ (1 : Int32) = 0 := by decide
  by_cases c0 : zNr n r
  · rw [if_pos c0] at hK
    simp only [zi_wp_c, zi_wK_if, zi_wK_go, zi_wK_no, zi_wK_b, zi_wK_r, zi_wK_c, zi_cc_i, zi_cc_n, zi_B_if, zi_ifF, zx_nop, zx_iconst, zx_bipush, zx_sipush, zx_lconst, zx_ldc2_w, zx_aconst_null, zx_iload, zx_iload_n, zx_lload, zx_lload_n, zx_aload, zx_aload_n, zx_istore, zx_istore_n, zx_lstore, zx_lstore_n, zx_astore, zx_astore_n, zx_iinc, zx_iadd, zx_isub, zx_imul, zx_iand, zx_ior, zx_ishl, zx_ishr, zx_idiv, zx_irem, zx_ladd, zx_ldiv, zx_lrem, zx_lcmp, zx_i2l, zx_i2b, zx_i2s, zx_pop, zx_dup, zx_dup2, zx_getfield, zx_putfield, zx_getstatic, zx_iaload, zx_iastore, zx_laload, zx_lastore, zx_aaload, zx_arraylength, zx_goto, zx_ifCond, zx_if_icmp, zx_ifnull, zx_ifnonnull, zx_tableswitch, zx_lookupswitch, zx_ireturn, zx_lreturn, zx_areturn, zx_return_, zx_invokestatic, zx_invokevirtual, zi_ldi, zi_ldl, zi_lda, zi_sti, zi_stl, zi_sta, zi_inc, zi_b2, zi_d2, zi_l2, zi_dl2, zi_lc, zi_u1, zi_pp, zi_dup, zi_dup2, zi_gf, zi_pf, zi_ial, zi_ias, zi_lal, zi_las, zi_aal, zi_aln, zi_cp, zi_cmp, zi_if, zi_ic, zi_nul, zi_nnl, zi_sw, zi_ri, zi_rl, zi_ra, zi_rv, zi_iv, zi_ivr, zi_st1, zi_st2, zq_get0, zq_getS, zq_getN, zq_put0, zq_putS, zq_putN0, zq_putNS, zq_kl0, zq_klS, zq_Ln, zq_Li, zq_Lr, zq_Lf, zq_Lz, zq_Ll, zq_ft0, zq_fti, zq_ftr, zq_ftz, zq_ftf, zq_ftl, zq_pop0, zq_popS, zq_la0, zq_lai, zq_lar, zq_laz, zq_laf, zq_lal, zq_sh0, zq_sh1, zq_sh2, zq_sh3, zq_sh4, zq_f0, zq_f1, zq_f2, zq_f3, zq_u0, zq_u1, zq_u2, zq_ro0, zq_ro1, zq_ro2, zq_fv0, zq_fv2, zq_rfs, zq_rfn, zq_gD0, zq_gDS, zq_gDN, zq_lk0, zq_lkS, zq_tb0, zq_tbS, zq_o0, zq_o1, zq_o2, zq_o98, zq_o99, zq_o100, zq_o105, zq_o107, zq_o112, zq_o115, zq_o116, zq_c0, zq_c1, zq_v0, zq_v1, decide_eq_true_eq, List.toList_toArray, if_true, if_false, ite_self, and_true, true_and, and_false, false_and, true_or, or_true, or_false, false_or, not_true_eq_false, not_false_eq_true, Bool.false_eq_true, reduceCtorEq, ne_eq, ite_not, eq_self, Prod.mk.injEq, Nat.reduceEqDiff, Nat.reduceSub, Nat.reduceAdd, Nat.reduceLT, Nat.reduceLeDiff, zb_139_0, zc_139_0, zb_139_1, zc_139_1, zb_139_2, zc_139_2, zmt_111, zmt_112, zmt_113, zmt_114, zmt_115, zmt_116, zmt_117, zmt_118, zmt_119, zmt_120, zmt_121, zmt_122, zmt_123, zmt_124, zmt_125, zmt_126, zmt_127, zmt_128, zmt_129, zmt_130, zmt_131, zmt_132, zmt_133, zmt_134, zmt_135, zmt_136, zrc_111_2, zrc_111_3, zrc_111_4, zrc_111_6, zrc_111_7, zrc_111_8, zrc_111_9, zrc_111_10, zrc_111_14, zrc_111_15, zrc_111_16, zrc_111_17, zrc_111_18, zrc_111_19, zrc_111_20, zrc_111_21, zrc_111_22, zrc_111_24, zrc_111_25, zrc_111_26, zrc_111_27, zrc_111_28, zrc_111_29, zrc_111_31, zrc_111_32, s_m_isR0 yn c0]
    exact hK _ _ hY (fun _ _ => rfl) (fun _ _ => rfl)
  · rw [if_neg c0] at hK
    have hi := fun (K : Option Value → zi_M → Prop) => s_m_isR1 (sc := sc) (J := J) (K := K) yn c0
    obtain ⟨k, ⟨hk1, hk⟩, rfl⟩ := zNr_ex (by omega) c0
    have e1 : (nI k).toNatClampNeg = k := nI_clamp (by omega)
    have hv : zi_vin (nI k) 7 = true := zv_nI (by omega) (by omega)
    rw [e1] at hK
    dsimp only at hK
    have ho : zPok ring n rd := ⟨og, o6, oR, oL⟩
    obtain ⟨y0, y1, y2, y3, y4⟩ := zy_in yp ho hk1 hk
    by_cases c1 : v < 1
    · rw [if_pos (Or.inl c1)] at hK
      simp only [zi_wp_c, zi_wK_if, zi_wK_go, zi_wK_no, zi_wK_b, zi_wK_r, zi_wK_c, zi_cc_i, zi_cc_n, zi_B_if, zi_ifF, zx_nop, zx_iconst, zx_bipush, zx_sipush, zx_lconst, zx_ldc2_w, zx_aconst_null, zx_iload, zx_iload_n, zx_lload, zx_lload_n, zx_aload, zx_aload_n, zx_istore, zx_istore_n, zx_lstore, zx_lstore_n, zx_astore, zx_astore_n, zx_iinc, zx_iadd, zx_isub, zx_imul, zx_iand, zx_ior, zx_ishl, zx_ishr, zx_idiv, zx_irem, zx_ladd, zx_ldiv, zx_lrem, zx_lcmp, zx_i2l, zx_i2b, zx_i2s, zx_pop, zx_dup, zx_dup2, zx_getfield, zx_putfield, zx_getstatic, zx_iaload, zx_iastore, zx_laload, zx_lastore, zx_aaload, zx_arraylength, zx_goto, zx_ifCond, zx_if_icmp, zx_ifnull, zx_ifnonnull, zx_tableswitch, zx_lookupswitch, zx_ireturn, zx_lreturn, zx_areturn, zx_return_, zx_invokestatic, zx_invokevirtual, zi_ldi, zi_ldl, zi_lda, zi_sti, zi_stl, zi_sta, zi_inc, zi_b2, zi_d2, zi_l2, zi_dl2, zi_lc, zi_u1, zi_pp, zi_dup, zi_dup2, zi_gf, zi_pf, zi_ial, zi_ias, zi_lal, zi_las, zi_aal, zi_aln, zi_cp, zi_cmp, zi_if, zi_ic, zi_nul, zi_nnl, zi_sw, zi_ri, zi_rl, zi_ra, zi_rv, zi_iv, zi_ivr, zi_st1, zi_st2, zq_get0, zq_getS, zq_getN, zq_put0, zq_putS, zq_putN0, zq_putNS, zq_kl0, zq_klS, zq_Ln, zq_Li, zq_Lr, zq_Lf, zq_Lz, zq_Ll, zq_ft0, zq_fti, zq_ftr, zq_ftz, zq_ftf, zq_ftl, zq_pop0, zq_popS, zq_la0, zq_lai, zq_lar, zq_laz, zq_laf, zq_lal, zq_sh0, zq_sh1, zq_sh2, zq_sh3, zq_sh4, zq_f0, zq_f1, zq_f2, zq_f3, zq_u0, zq_u1, zq_u2, zq_ro0, zq_ro1, zq_ro2, zq_fv0, zq_fv2, zq_rfs, zq_rfn, zq_gD0, zq_gDS, zq_gDN, zq_lk0, zq_lkS, zq_tb0, zq_tbS, zq_o0, zq_o1, zq_o2, zq_o98, zq_o99, zq_o100, zq_o105, zq_o107, zq_o112, zq_o115, zq_o116, zq_c0, zq_c1, zq_v0, zq_v1, decide_eq_true_eq, List.toList_toArray, if_true, if_false, ite_self, and_true, true_and, and_false, false_and, true_or, or_true, or_false, false_or, not_true_eq_false, not_false_eq_true, Bool.false_eq_true, reduceCtorEq, ne_eq, ite_not, eq_self, Prod.mk.injEq, Nat.reduceEqDiff, Nat.reduceSub, Nat.reduceAdd, Nat.reduceLT, Nat.reduceLeDiff, zb_139_0, zc_139_0, zb_139_1, zc_139_1, zb_139_2, zc_139_2, zmt_111, zmt_112, zmt_113, zmt_114, zmt_115, zmt_116, zmt_117, zmt_118, zmt_119, zmt_120, zmt_121, zmt_122, zmt_123, zmt_124, zmt_125, zmt_126, zmt_127, zmt_128, zmt_129, zmt_130, zmt_131, zmt_132, zmt_133, zmt_134, zmt_135, zmt_136, zrc_111_2, zrc_111_3, zrc_111_4, zrc_111_6, zrc_111_7, zrc_111_8, zrc_111_9, zrc_111_10, zrc_111_14, zrc_111_15, zrc_111_16, zrc_111_17, zrc_111_18, zrc_111_19, zrc_111_20, zrc_111_21, zrc_111_22, zrc_111_24, zrc_111_25, zrc_111_26, zrc_111_27, zrc_111_28, zrc_111_29, zrc_111_31, zrc_111_32, hi, d1, s_m_within, c1]
      exact hK _ _ hY (fun _ _ => rfl) (fun _ _ => rfl)
    · by_cases c2 : 9 < v
      · rw [if_pos (Or.inr c2)] at hK
        simp only [zi_wp_c, zi_wK_if, zi_wK_go, zi_wK_no, zi_wK_b, zi_wK_r, zi_wK_c, zi_cc_i, zi_cc_n, zi_B_if, zi_ifF, zx_nop, zx_iconst, zx_bipush, zx_sipush, zx_lconst, zx_ldc2_w, zx_aconst_null, zx_iload, zx_iload_n, zx_lload, zx_lload_n, zx_aload, zx_aload_n, zx_istore, zx_istore_n, zx_lstore, zx_lstore_n, zx_astore, zx_astore_n, zx_iinc, zx_iadd, zx_isub, zx_imul, zx_iand, zx_ior, zx_ishl, zx_ishr, zx_idiv, zx_irem, zx_ladd, zx_ldiv, zx_lrem, zx_lcmp, zx_i2l, zx_i2b, zx_i2s, zx_pop, zx_dup, zx_dup2, zx_getfield, zx_putfield, zx_getstatic, zx_iaload, zx_iastore, zx_laload, zx_lastore, zx_aaload, zx_arraylength, zx_goto, zx_ifCond, zx_if_icmp, zx_ifnull, zx_ifnonnull, zx_tableswitch, zx_lookupswitch, zx_ireturn, zx_lreturn, zx_areturn, zx_return_, zx_invokestatic, zx_invokevirtual, zi_ldi, zi_ldl, zi_lda, zi_sti, zi_stl, zi_sta, zi_inc, zi_b2, zi_d2, zi_l2, zi_dl2, zi_lc, zi_u1, zi_pp, zi_dup, zi_dup2, zi_gf, zi_pf, zi_ial, zi_ias, zi_lal, zi_las, zi_aal, zi_aln, zi_cp, zi_cmp, zi_if, zi_ic, zi_nul, zi_nnl, zi_sw, zi_ri, zi_rl, zi_ra, zi_rv, zi_iv, zi_ivr, zi_st1, zi_st2, zq_get0, zq_getS, zq_getN, zq_put0, zq_putS, zq_putN0, zq_putNS, zq_kl0, zq_klS, zq_Ln, zq_Li, zq_Lr, zq_Lf, zq_Lz, zq_Ll, zq_ft0, zq_fti, zq_ftr, zq_ftz, zq_ftf, zq_ftl, zq_pop0, zq_popS, zq_la0, zq_lai, zq_lar, zq_laz, zq_laf, zq_lal, zq_sh0, zq_sh1, zq_sh2, zq_sh3, zq_sh4, zq_f0, zq_f1, zq_f2, zq_f3, zq_u0, zq_u1, zq_u2, zq_ro0, zq_ro1, zq_ro2, zq_fv0, zq_fv2, zq_rfs, zq_rfn, zq_gD0, zq_gDS, zq_gDN, zq_lk0, zq_lkS, zq_tb0, zq_tbS, zq_o0, zq_o1, zq_o2, zq_o98, zq_o99, zq_o100, zq_o105, zq_o107, zq_o112, zq_o115, zq_o116, zq_c0, zq_c1, zq_v0, zq_v1, decide_eq_true_eq, List.toList_toArray, if_true, if_false, ite_self, and_true, true_and, and_false, false_and, true_or, or_true, or_false, false_or, not_true_eq_false, not_false_eq_true, Bool.false_eq_true, reduceCtorEq, ne_eq, ite_not, eq_self, Prod.mk.injEq, Nat.reduceEqDiff, Nat.reduceSub, Nat.reduceAdd, Nat.reduceLT, Nat.reduceLeDiff, zb_139_0, zc_139_0, zb_139_1, zc_139_1, zb_139_2, zc_139_2, zmt_111, zmt_112, zmt_113, zmt_114, zmt_115, zmt_116, zmt_117, zmt_118, zmt_119, zmt_120, zmt_121, zmt_122, zmt_123, zmt_124, zmt_125, zmt_126, zmt_127, zmt_128, zmt_129, zmt_130, zmt_131, zmt_132, zmt_133, zmt_134, zmt_135, zmt_136, zrc_111_2, zrc_111_3, zrc_111_4, zrc_111_6, zrc_111_7, zrc_111_8, zrc_111_9, zrc_111_10, zrc_111_14, zrc_111_15, zrc_111_16, zrc_111_17, zrc_111_18, zrc_111_19, zrc_111_20, zrc_111_21, zrc_111_22, zrc_111_24, zrc_111_25, zrc_111_26, zrc_111_27, zrc_111_28, zrc_111_29, zrc_111_31, zrc_111_32, hi, d1, s_m_within, c1, c2]
        exact hK _ _ hY (fun _ _ => rfl) (fun _ _ => rfl)
      · rw [if_neg (fun h => h.elim c1 c2)] at hK
        obtain ⟨w, hw, rfl⟩ := zsp_ex (fun h => h.elim c1 c2)
        rw [show (nI w).toNatClampNeg = w from nI_clamp (by omega)] at hK
        simp only [zi_wp_c, zi_wK_if, zi_wK_go, zi_wK_no, zi_wK_b, zi_wK_r, zi_wK_c, zi_cc_i, zi_cc_n, zi_B_if, zi_ifF, zx_nop, zx_iconst, zx_bipush, zx_sipush, zx_lconst, zx_ldc2_w, zx_aconst_null, zx_iload, zx_iload_n, zx_lload, zx_lload_n, zx_aload, zx_aload_n, zx_istore, zx_istore_n, zx_lstore, zx_lstore_n, zx_astore, zx_astore_n, zx_iinc, zx_iadd, zx_isub, zx_imul, zx_iand, zx_ior, zx_ishl, zx_ishr, zx_idiv, zx_irem, zx_ladd, zx_ldiv, zx_lrem, zx_lcmp, zx_i2l, zx_i2b, zx_i2s, zx_pop, zx_dup, zx_dup2, zx_getfield, zx_putfield, zx_getstatic, zx_iaload, zx_iastore, zx_laload, zx_lastore, zx_aaload, zx_arraylength, zx_goto, zx_ifCond, zx_if_icmp, zx_ifnull, zx_ifnonnull, zx_tableswitch, zx_lookupswitch, zx_ireturn, zx_lreturn, zx_areturn, zx_return_, zx_invokestatic, zx_invokevirtual, zi_ldi, zi_ldl, zi_lda, zi_sti, zi_stl, zi_sta, zi_inc, zi_b2, zi_d2, zi_l2, zi_dl2, zi_lc, zi_u1, zi_pp, zi_dup, zi_dup2, zi_gf, zi_pf, zi_ial, zi_ias, zi_lal, zi_las, zi_aal, zi_aln, zi_cp, zi_cmp, zi_if, zi_ic, zi_nul, zi_nnl, zi_sw, zi_ri, zi_rl, zi_ra, zi_rv, zi_iv, zi_ivr, zi_st1, zi_st2, zq_get0, zq_getS, zq_getN, zq_put0, zq_putS, zq_putN0, zq_putNS, zq_kl0, zq_klS, zq_Ln, zq_Li, zq_Lr, zq_Lf, zq_Lz, zq_Ll, zq_ft0, zq_fti, zq_ftr, zq_ftz, zq_ftf, zq_ftl, zq_pop0, zq_popS, zq_la0, zq_lai, zq_lar, zq_laz, zq_laf, zq_lal, zq_sh0, zq_sh1, zq_sh2, zq_sh3, zq_sh4, zq_f0, zq_f1, zq_f2, zq_f3, zq_u0, zq_u1, zq_u2, zq_ro0, zq_ro1, zq_ro2, zq_fv0, zq_fv2, zq_rfs, zq_rfn, zq_gD0, zq_gDS, zq_gDN, zq_lk0, zq_lkS, zq_tb0, zq_tbS, zq_o0, zq_o1, zq_o2, zq_o98, zq_o99, zq_o100, zq_o105, zq_o107, zq_o112, zq_o115, zq_o116, zq_c0, zq_c1, zq_v0, zq_v1, decide_eq_true_eq, List.toList_toArray, if_true, if_false, ite_self, and_true, true_and, and_false, false_and, true_or, or_true, or_false, false_or, not_true_eq_false, not_false_eq_true, Bool.false_eq_true, reduceCtorEq, ne_eq, ite_not, eq_self, Prod.mk.injEq, Nat.reduceEqDiff, Nat.reduceSub, Nat.reduceAdd, Nat.reduceLT, Nat.reduceLeDiff, zb_139_0, zc_139_0, zb_139_1, zc_139_1, zb_139_2, zc_139_2, zmt_111, zmt_112, zmt_113, zmt_114, zmt_115, zmt_116, zmt_117, zmt_118, zmt_119, zmt_120, zmt_121, zmt_122, zmt_123, zmt_124, zmt_125, zmt_126, zmt_127, zmt_128, zmt_129, zmt_130, zmt_131, zmt_132, zmt_133, zmt_134, zmt_135, zmt_136, zrc_111_2, zrc_111_3, zrc_111_4, zrc_111_6, zrc_111_7, zrc_111_8, zrc_111_9, zrc_111_10, zrc_111_14, zrc_111_15, zrc_111_16, zrc_111_17, zrc_111_18, zrc_111_19, zrc_111_20, zrc_111_21, zrc_111_22, zrc_111_24, zrc_111_25, zrc_111_26, zrc_111_27, zrc_111_28, zrc_111_29, zrc_111_31, zrc_111_32, hi, d1, s_m_within, c1, c2, hv, e1, y1]
        have hne : ∀ a, a ≠ 117 → zi_up I 117 k (nI w) a = I a := fun a h => zu_up_ne _ h
        obtain ⟨yr1, yr2⟩ := yr
        refine hK _ _ ⟨⟨?_, ?_⟩, ?_, ⟨?_, fun q hq => ?_, fun q hq => ?_⟩, ?_, ?_⟩ (fun a h => hne a (by omega)) (fun _ _ => rfl)
        · rw [hne 111 (by omega)]; exact yf
        · rw [hne 111 (by omega)]; exact yt
        · unfold zYs
          rw [hne 112 (by omega), hne 113 (by omega), hne 114 (by omega)]
          exact ys
        · rw [hne 111 (by omega)]; exact yn
        · rw [hne 116 (by omega), hne 118 (by omega), hne 119 (by omega), zu_up, if_pos rfl, zsp_rd q]
          have h9 := yv q hq
          by_cases e : q = k - 1
          · subst e
            rw [if_pos (by omega)]
            unfold va_up
            dsimp only
            rw [if_pos rfl]
            exact ⟨h9.1, rfl, h9.2.2⟩
          · rw [if_neg (by omega)]
            unfold va_up
            dsimp only
            rw [if_neg e]
            exact h9
        · rw [hne 115 (by omega), zsp_lp]
          exact yl q hq
        · rw [hne 111 (by omega)]; exact yr1
        · rw [hne 135 (by omega), hne 136 (by omega)]; exact yr2
end ZO2
