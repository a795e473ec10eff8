/-! puton on x's side -/
theorem zup_lt {rd : Nat → zRt} {n r : Nat} {x : zRt} (h : r < n) : va_up rd n x r = rd r := by unfold va_up; rw [if_neg (by omega)]
theorem zup_eq {rd : Nat → zRt} {n : Nat} {x : zRt} : va_up rd n x n = x := by unfold va_up; rw [if_pos rfl]
theorem zlp_up {ring n r : Nat} {rd : Nat → zRt} {x : zRt} (h : r ≤ n) : zlp ring (va_up rd n x) r = zlp ring rd r := zlp_cong r (fun q hq => by rw [zup_lt (show q < n by omega)]; exact ⟨rfl, rfl⟩)
theorem zT_up {ring n r : Nat} {rd : Nat → zRt} {x : zRt} (h : r < n) : zT ring (va_up rd n x) r = zT ring rd r := by unfold zT; rw [zlp_up (show r ≤ n by omega), zup_lt h]
theorem zXp.sp {I I' : Nat → Nat → Int32} {ring n : Nat} {rd : Nat → zRt} (h : zXp I ring n rd) (ha : ∀ a, 2 ≤ a → a < 4 + 2 * n → I' a = I a) : zXp I' ring n rd := by
  obtain ⟨h0, ⟨⟨h1, h2⟩, ⟨h3, h4⟩, h5⟩, h6⟩ := h
  refine ⟨by rw [ha 2 (by omega) (by omega)]; exact h0, ⟨⟨by rw [ha 2 (by omega) (by omega)]; exact h1, by rw [ha 2 (by omega) (by omega)]; exact h2⟩, ⟨h3, h4⟩, fun r hr => ?_⟩, fun r hr => ?_⟩
  · exact (h5 r hr).kept (by rw [ha _ (by omega) (by omega)]; exact ⟨rfl, rfl, rfl⟩) (fun i _ => by rw [ha _ (by omega) (by omega)])
  · rw [ha _ (by omega) (by omega)]
    exact h6 r hr
theorem zXp.app {I I' : Nat → Nat → Int32} {ring n : Nat} {rd : Nat → zRt} {x : zRt} (h : zXp I ring n rd) (hn : n < 6) (ha : ∀ a, 2 < a → a < 4 + 2 * n → I' a = I a) (h0 : I' 2 0 = I 2 0) (h1 : I' 2 1 = I 2 1) (h2 : I' 2 2 = nI (n + 1)) (hv : zRv I' (4 + 2 * n) x) (h5 : I' (4 + 2 * n) 5 = nI (zco (zlp ring rd n) (zuR x) (zmR x))) (h4 : I' (4 + 2 * n) 4 = nI (zlp ring rd n / zuR x)) : zXp I' ring (n + 1) (va_up rd n x) := by
  obtain ⟨g0, ⟨⟨g1, g2⟩, ⟨g3, g4⟩, g5⟩, g6⟩ := h
  have e : ∀ r, 2 + 2 + 2 * r = 4 + 2 * r := fun r => by omega
  refine ⟨h0.trans g0, ⟨⟨h1.trans g1, h2⟩, ⟨g3, by omega⟩, fun r hr => ?_⟩, fun r hr => ?_⟩
  · by_cases c : r = n
    · subst c
      rw [zup_eq, e]
      exact hv
    · rw [zup_lt (show r < n by omega)]
      exact (g5 r (by omega)).kept (by rw [ha _ (by omega) (by omega)]; exact ⟨rfl, rfl, rfl⟩) (fun i _ => by rw [ha _ (by omega) (by omega)])
  · by_cases c : r = n
    · subst c
      rw [zlp_up (Nat.le_refl r), zup_eq, e]
      refine ⟨?_, h4⟩
      rw [h5]
      show _ = nI (zco (zlp ring (va_up rd r x) r) (zuR (va_up rd r x r)) (zmR (va_up rd r x r)))
      rw [zlp_up (Nat.le_refl r), zup_eq]
    · rw [zup_lt (show r < n by omega), zlp_up (show r ≤ n by omega), zlp_up (show r + 1 ≤ n by omega), ha _ (by omega) (by omega)]
      exact g6 r (by omega)
theorem zX.sp {S : zS} {I I' : Nat → Nat → Int32} {J : Nat → Nat → Int64} (h : zX S I J) (hn : S.2.2.1.2.1 ≤ 6) (ha : ∀ a, a < 4 + 2 * S.2.2.1.2.1 ∨ 45 ≤ a → I' a = I a) : zX S I' J := by
  obtain ⟨⟨a1, a2⟩, b, c, d, e, f, g, i⟩ := h
  exact ⟨⟨by rw [ha 0 (by omega)]; exact a1, by rw [ha 0 (by omega)]; exact a2⟩, b.kept (fun a _ _ => ha a (by omega)), c.sp (fun a _ _ => ha a (by omega)), d.kept (fun a _ _ => ha a (by omega)), e.kept hn (fun a _ _ => ha a (by omega)), f.kept (fun a _ _ => ha a (by omega)), g.kept (fun a _ _ => ha a (by omega)), i.kept (fun a _ _ => ha a (by omega)) (fun a _ _ => rfl)⟩
theorem zLy.app {I I' : Nat → Nat → Int32} {ring n : Nat} {rd : Nat → zRt} {x : zRt} (h : zLy I ring n rd) (hn : n < 6) (ho : zXo n I I') (hw : zRw I' ring (va_up rd n x) n) : zLy I' ring (n + 1) (va_up rd n x) := by
  intro hr
  obtain ⟨h1, h2⟩ := h hr
  refine ⟨fun k hk => by rw [ho 71 (by omega) (by omega) (by omega) (by omega) (by omega)]; exact h1 k hk, fun r hr2 => ?_⟩
  by_cases c : r = n
  · subst c
    exact hw
  · have h3 : zRw I ring rd r := h2 r (by omega)
    have h4 := h3.kept (show r < n by omega) hn ho
    unfold zRw at h4
    rw [zup_lt (show r < n by omega), zT_up (show r < n by omega), zlp_up (show r ≤ n by omega)]
    exact h4
/-- puton -/
def zF_puton (S : zS) (kd v sh lane i c : Int32) : zS × Int32 :=
  if zNo kd 2 ∨ v < 1 ∨ 9 < v then (zfl S 0, -2) else if S.2.2.1.1 = 0 then (zfl S 0, -3) else if zNo sh 3 then (zfl S 0, -1)
  else if zNo lane 2 ∨ c < 1 ∨ 5 < c then (zfl S 0, -2)
  else if zFt (S.2.1.1 sh.toNatClampNeg) (S.2.1.2.1 sh.toNatClampNeg) lane i c ≠ 0 then (zfl S (zFt (S.2.1.1 sh.toNatClampNeg) (S.2.1.2.1 sh.toNatClampNeg) lane i c), -10 - zFt (S.2.1.1 sh.toNatClampNeg) (S.2.1.2.1 sh.toNatClampNeg) lane i c)
  else if ¬ zSgs (S.2.1.2.2 sh.toNatClampNeg) i.toNatClampNeg c.toNatClampNeg then (zfl S 0, -2)
  else if ¬ S.2.2.1.2.1 < 6 then (zfl S 0, -4)
  else if zco (zlp S.2.2.1.1 S.2.2.1.2.2 S.2.2.1.2.1) (zuR (zNx kd.toNatClampNeg v.toNatClampNeg c.toNatClampNeg i.toNatClampNeg (S.2.1.2.2 sh.toNatClampNeg))) (zmR (zNx kd.toNatClampNeg v.toNatClampNeg c.toNatClampNeg i.toNatClampNeg (S.2.1.2.2 sh.toNatClampNeg))) = 0 then (zfl S 0, -3)
  else (((0, S.1.2), S.2.1, (S.2.2.1.1, S.2.2.1.2.1 + 1, va_up S.2.2.1.2.2 S.2.2.1.2.1 (zNx kd.toNatClampNeg v.toNatClampNeg c.toNatClampNeg i.toNatClampNeg (S.2.1.2.2 sh.toNatClampNeg))), S.2.2.2), nI (zco (zlp S.2.2.1.1 S.2.2.1.2.2 S.2.2.1.2.1) (zuR (zNx kd.toNatClampNeg v.toNatClampNeg c.toNatClampNeg i.toNatClampNeg (S.2.1.2.2 sh.toNatClampNeg))) (zmR (zNx kd.toNatClampNeg v.toNatClampNeg c.toNatClampNeg i.toNatClampNeg (S.2.1.2.2 sh.toNatClampNeg)))))
theorem zFt_0 {ln : Int32} {s : Nat} {lane i c : Int32} (hs : s ≤ 60) (h : zFt ln s lane i c = 0) : ln ≠ -9 ∧ ln = lane ∧ ∃ j w, j + w ≤ s ∧ i = nI j ∧ c = nI w := by
  unfold zFt at h
  by_cases c0 : ln = -9
  · rw [if_pos c0] at h; exact absurd h (by decide)
  · rw [if_neg c0] at h
    by_cases c1 : ln = lane
    · rw [if_neg (fun q => q c1)] at h
      by_cases c2 : c < 0
      · rw [if_pos c2] at h; exact absurd h (by decide)
      · rw [if_neg c2] at h
        by_cases c3 : zLk s i c
        · rw [if_pos c3] at h; exact absurd h (by decide)
        · exact ⟨c0, c1, zLk_n hs c3⟩
    · rw [if_pos c1] at h; exact absurd h (by decide)
theorem zRok_nx {kd sp c i : Nat} {f : Nat → Int32} (h1 : kd ≤ 2) (h2 : 1 ≤ sp ∧ sp ≤ 9) (h3 : 1 ≤ c ∧ c ≤ 5) (hg : zSgs f i c) : zRok (zNx kd sp c i f) := ⟨show kd < 3 by omega, h2, h3, fun u hu => (zSgs_nI hg hu).2⟩
theorem o_puton {S : zS} {kd v sh lane i c : Int32} (h : zOk S) : zOk (zF_puton S kd v sh lane i c).1 := by
  unfold zF_puton
  by_cases c0 : zNo kd 2 ∨ v < 1 ∨ 9 < v
  · rw [if_pos c0]; exact h
  rw [if_neg c0]
  by_cases c1 : S.2.2.1.1 = 0
  · rw [if_pos c1]; exact h
  rw [if_neg c1]
  by_cases c2 : zNo sh 3
  · rw [if_pos c2]; exact h
  rw [if_neg c2]
  by_cases c3 : zNo lane 2 ∨ c < 1 ∨ 5 < c
  · rw [if_pos c3]; exact h
  rw [if_neg c3]
  by_cases c4 : zFt (S.2.1.1 sh.toNatClampNeg) (S.2.1.2.1 sh.toNatClampNeg) lane i c ≠ 0
  · rw [if_pos c4]; exact h
  rw [if_neg c4]
  by_cases c5 : ¬ zSgs (S.2.1.2.2 sh.toNatClampNeg) i.toNatClampNeg c.toNatClampNeg
  · rw [if_pos c5]; exact h
  rw [if_neg c5]
  by_cases c6 : ¬ S.2.2.1.2.1 < 6
  · rw [if_pos c6]; exact h
  rw [if_neg c6]
  obtain ⟨k, hk, rfl⟩ := zNo_ex (by omega) (fun q => c0 (Or.inl q))
  obtain ⟨w, hw, rfl⟩ := zsp_ex (fun q => c0 (Or.inr q))
  obtain ⟨u, hu, rfl⟩ := zNr_ex (n := 5) (by omega) (fun q => c3 (Or.inr q))
  rw [show (nI k).toNatClampNeg = k from nI_clamp (by omega), show (nI w).toNatClampNeg = w from nI_clamp (by omega), show (nI u).toNatClampNeg = u from nI_clamp (by omega)]
  rw [show (nI u).toNatClampNeg = u from nI_clamp (by omega)] at c5
  generalize hx : zNx k w u i.toNatClampNeg (S.2.1.2.2 sh.toNatClampNeg) = x
  have hxr : zRok x := by rw [← hx]; exact zRok_nx hk hw hu (Classical.not_not.mp c5)
  by_cases c7 : zco (zlp S.2.2.1.1 S.2.2.1.2.2 S.2.2.1.2.1) (zuR x) (zmR x) = 0
  · rw [if_pos c7]; exact h
  rw [if_neg c7]
  obtain ⟨h1, ⟨h2, h3, h4, h5⟩, h6⟩ := h
  refine ⟨h1, ⟨?_, ?_, fun r hr => ?_, fun r hr hg => ?_⟩, h6⟩
  · rcases h2 with h2 | h2
    · exact absurd h2.1 c1
    · exact Or.inr h2
  · show S.2.2.1.2.1 + 1 ≤ 6
    omega
  · have hr' : r < S.2.2.1.2.1 + 1 := hr
    show zRok (va_up S.2.2.1.2.2 S.2.2.1.2.1 x r)
    by_cases e : r = S.2.2.1.2.1
    · rw [e, zup_eq]; exact hxr
    · rw [zup_lt (by omega)]; exact h4 r (by omega)
  · have hr' : r ≤ S.2.2.1.2.1 + 1 := hr
    show zlp S.2.2.1.1 (va_up S.2.2.1.2.2 S.2.2.1.2.1 x) r ≠ 0
    by_cases e : r = S.2.2.1.2.1 + 1
    · rw [e]
      show zco (zlp S.2.2.1.1 (va_up S.2.2.1.2.2 S.2.2.1.2.1 x) S.2.2.1.2.1) (zuR (va_up S.2.2.1.2.2 S.2.2.1.2.1 x S.2.2.1.2.1)) (zmR (va_up S.2.2.1.2.2 S.2.2.1.2.1 x S.2.2.1.2.1)) ≠ 0
      rw [zlp_up (Nat.le_refl _), zup_eq]
      exact c7
    · rw [zlp_up (by omega)]
      exact h5 r (by omega) hg
theorem x_puton {S : zS} {kd v sh lane i c : Int32} : zSx 65 [some (.int kd), some (.int v), some (.int sh), some (.int lane), some (.int i), some (.int c)] S (zF_puton S kd v sh lane i c).1 (.int (zF_puton S kd v sh lane i c).2) := by
  intro sc I J K hX hO hK
  obtain ⟨⟨ft, tr⟩, ⟨ln, sz, cl⟩, ⟨ring, n, rd⟩, nr, rr, rv⟩ := S
  obtain ⟨⟨xf, xt⟩, xs, xp, xr, xl, xq, x1, x2⟩ := id hX
  obtain ⟨os, ⟨og, o6, oR, oL⟩, o8, oq⟩ := id hO
  dsimp only at xf xt xs xp xr xl os og o6 oR oL o8 oq hK ⊢
  obtain ⟨xb, xps, xpl⟩ := id xp
  obtain ⟨⟨pr, pn⟩, ⟨pr60, pn6⟩, pv⟩ := id xps
  unfold zF_puton at hK
  have d1 : ¬ (1 : Int32) = 0 := by decide
  have hR : ∀ I2 : Nat → Nat → Int32, zi_up I 0 8 0 = I2 → zX (zfl ((ft, tr), (ln, sz, cl), (ring, n, rd), nr, rr, rv) 0) I2 J := fun I2 e => by rw [← e]; exact hX.flt 0 o6
  have hA : ∀ v : Int32, ∀ a, 111 ≤ a → zi_up I 0 8 v a = I a := fun v a h => zu_up_ne I (by omega)
  by_cases c0 : zNo kd 2
  · rw [if_pos (Or.inl c0)] at hK
    simp only [zi_wp_c, zi_wK_if, zi_wK_go, zi_wK_no, zi_wK_b, zi_wK_r, zi_wK_c, zi_cc_i, zi_cc_n, zi_B_if, zi_ifF, zx_nop, zx_iconst, zx_bipush, zx_sipush, zx_lconst, zx_ldc2_w, zx_aconst_null, zx_iload, zx_iload_n, zx_lload, zx_lload_n, zx_aload, zx_aload_n, zx_istore, zx_istore_n, zx_lstore, zx_lstore_n, zx_astore, zx_astore_n, zx_iinc, zx_iadd, zx_isub, zx_imul, zx_iand, zx_ior, zx_ishl, zx_ishr, zx_idiv, zx_irem, zx_ladd, zx_ldiv, zx_lrem, zx_lcmp, zx_i2l, zx_i2b, zx_i2s, zx_pop, zx_dup, zx_dup2, zx_getfield, zx_putfield, zx_getstatic, zx_iaload, zx_iastore, zx_laload, zx_lastore, zx_aaload, zx_arraylength, zx_goto, zx_ifCond, zx_if_icmp, zx_ifnull, zx_ifnonnull, zx_tableswitch, zx_lookupswitch, zx_ireturn, zx_lreturn, zx_areturn, zx_return_, zx_invokestatic, zx_invokevirtual, zi_ldi, zi_ldl, zi_lda, zi_sti, zi_stl, zi_sta, zi_inc, zi_b2, zi_d2, zi_l2, zi_dl2, zi_lc, zi_u1, zi_pp, zi_dup, zi_dup2, zi_gf, zi_pf, zi_ial, zi_ias, zi_lal, zi_las, zi_aal, zi_aln, zi_cp, zi_cmp, zi_if, zi_ic, zi_nul, zi_nnl, zi_sw, zi_ri, zi_rl, zi_ra, zi_rv, zi_iv, zi_ivr, zi_st1, zi_st2, zq_get0, zq_getS, zq_getN, zq_put0, zq_putS, zq_putN0, zq_putNS, zq_kl0, zq_klS, zq_Ln, zq_Li, zq_Lr, zq_Lf, zq_Lz, zq_Ll, zq_ft0, zq_fti, zq_ftr, zq_ftz, zq_ftf, zq_ftl, zq_pop0, zq_popS, zq_la0, zq_lai, zq_lar, zq_laz, zq_laf, zq_lal, zq_sh0, zq_sh1, zq_sh2, zq_sh3, zq_sh4, zq_f0, zq_f1, zq_f2, zq_f3, zq_u0, zq_u1, zq_u2, zq_ro0, zq_ro1, zq_ro2, zq_fv0, zq_fv2, zq_rfs, zq_rfn, zq_gD0, zq_gDS, zq_gDN, zq_lk0, zq_lkS, zq_tb0, zq_tbS, zq_o0, zq_o1, zq_o2, zq_o98, zq_o99, zq_o100, zq_o105, zq_o107, zq_o112, zq_o115, zq_o116, zq_c0, zq_c1, zq_v0, zq_v1, decide_eq_true_eq, List.toList_toArray, if_true, if_false, ite_self, and_true, true_and, and_false, false_and, true_or, or_true, or_false, false_or, not_true_eq_false, not_false_eq_true, Bool.false_eq_true, reduceCtorEq, ne_eq, ite_not, eq_self, Prod.mk.injEq, Nat.reduceEqDiff, Nat.reduceSub, Nat.reduceAdd, Nat.reduceLT, Nat.reduceLeDiff, zb_65_0, zc_65_0, zb_65_1, zc_65_1, zmt_0, zmt_1, zmt_2, zmt_3, zmt_16, zmt_17, zmt_30, zmt_31, zmt_32, zmt_45, zmt_46, zmt_54, zmt_62, zmt_70, zmt_78, zmt_86, zmt_87, zmt_88, zmt_89, zmt_90, zmt_91, zmt_92, zmt_93, zmt_94, zmt_95, zmt_96, zrc_0_0, zrc_0_1, zrc_0_2, zrc_0_3, zrc_0_4, zrc_0_5, zrc_0_6, zrc_2_3, zrc_16_3, zrc_30_0, zrc_31_3, zrc_45_0, zrc_45_1, zrc_45_2, zrc_45_3, zrc_45_4, zrc_86_1, zrc_86_2, zrc_89_0, zrc_89_1, zrc_89_4, zrc_89_5, zrc_89_6, zrc_89_7, zrc_89_8, s_x_isNoKind, c0, s_x_refused]
    exact hK _ _ (hX.flt 0 o6) (hA 0) (fun _ _ => rfl)
  by_cases c1 : v < 1 ∨ 9 < v
  · rw [if_pos (Or.inr c1)] at hK
    have e : (if v < 1 then (1 : Int32) else if v ≤ 9 then 0 else 1) = 1 := by
      rcases c1 with c1 | c1
      · rw [if_pos c1]
      · by_cases c2 : v < 1
        · rw [if_pos c2]
        · rw [if_neg c2, if_neg (Int32.not_le.mpr c1)]
    simp only [zi_wp_c, zi_wK_if, zi_wK_go, zi_wK_no, zi_wK_b, zi_wK_r, zi_wK_c, zi_cc_i, zi_cc_n, zi_B_if, zi_ifF, zx_nop, zx_iconst, zx_bipush, zx_sipush, zx_lconst, zx_ldc2_w, zx_aconst_null, zx_iload, zx_iload_n, zx_lload, zx_lload_n, zx_aload, zx_aload_n, zx_istore, zx_istore_n, zx_lstore, zx_lstore_n, zx_astore, zx_astore_n, zx_iinc, zx_iadd, zx_isub, zx_imul, zx_iand, zx_ior, zx_ishl, zx_ishr, zx_idiv, zx_irem, zx_ladd, zx_ldiv, zx_lrem, zx_lcmp, zx_i2l, zx_i2b, zx_i2s, zx_pop, zx_dup, zx_dup2, zx_getfield, zx_putfield, zx_getstatic, zx_iaload, zx_iastore, zx_laload, zx_lastore, zx_aaload, zx_arraylength, zx_goto, zx_ifCond, zx_if_icmp, zx_ifnull, zx_ifnonnull, zx_tableswitch, zx_lookupswitch, zx_ireturn, zx_lreturn, zx_areturn, zx_return_, zx_invokestatic, zx_invokevirtual, zi_ldi, zi_ldl, zi_lda, zi_sti, zi_stl, zi_sta, zi_inc, zi_b2, zi_d2, zi_l2, zi_dl2, zi_lc, zi_u1, zi_pp, zi_dup, zi_dup2, zi_gf, zi_pf, zi_ial, zi_ias, zi_lal, zi_las, zi_aal, zi_aln, zi_cp, zi_cmp, zi_if, zi_ic, zi_nul, zi_nnl, zi_sw, zi_ri, zi_rl, zi_ra, zi_rv, zi_iv, zi_ivr, zi_st1, zi_st2, zq_get0, zq_getS, zq_getN, zq_put0, zq_putS, zq_putN0, zq_putNS, zq_kl0, zq_klS, zq_Ln, zq_Li, zq_Lr, zq_Lf, zq_Lz, zq_Ll, zq_ft0, zq_fti, zq_ftr, zq_ftz, zq_ftf, zq_ftl, zq_pop0, zq_popS, zq_la0, zq_lai, zq_lar, zq_laz, zq_laf, zq_lal, zq_sh0, zq_sh1, zq_sh2, zq_sh3, zq_sh4, zq_f0, zq_f1, zq_f2, zq_f3, zq_u0, zq_u1, zq_u2, zq_ro0, zq_ro1, zq_ro2, zq_fv0, zq_fv2, zq_rfs, zq_rfn, zq_gD0, zq_gDS, zq_gDN, zq_lk0, zq_lkS, zq_tb0, zq_tbS, zq_o0, zq_o1, zq_o2, zq_o98, zq_o99, zq_o100, zq_o105, zq_o107, zq_o112, zq_o115, zq_o116, zq_c0, zq_c1, zq_v0, zq_v1, decide_eq_true_eq, List.toList_toArray, if_true, if_false, ite_self, and_true, true_and, and_false, false_and, true_or, or_true, or_false, false_or, not_true_eq_false, not_false_eq_true, Bool.false_eq_true, reduceCtorEq, ne_eq, ite_not, eq_self, Prod.mk.injEq, Nat.reduceEqDiff, Nat.reduceSub, Nat.reduceAdd, Nat.reduceLT, Nat.reduceLeDiff, zb_65_0, zc_65_0, zb_65_1, zc_65_1, zmt_0, zmt_1, zmt_2, zmt_3, zmt_16, zmt_17, zmt_30, zmt_31, zmt_32, zmt_45, zmt_46, zmt_54, zmt_62, zmt_70, zmt_78, zmt_86, zmt_87, zmt_88, zmt_89, zmt_90, zmt_91, zmt_92, zmt_93, zmt_94, zmt_95, zmt_96, zrc_0_0, zrc_0_1, zrc_0_2, zrc_0_3, zrc_0_4, zrc_0_5, zrc_0_6, zrc_2_3, zrc_16_3, zrc_30_0, zrc_31_3, zrc_45_0, zrc_45_1, zrc_45_2, zrc_45_3, zrc_45_4, zrc_86_1, zrc_86_2, zrc_89_0, zrc_89_1, zrc_89_4, zrc_89_5, zrc_89_6, zrc_89_7, zrc_89_8, s_x_isNoKind, c0, s_x_isNoSpun, e, s_x_refused]
    exact hK _ _ (hX.flt 0 o6) (hA 0) (fun _ _ => rfl)
  rw [if_neg (fun h => h.elim c0 c1)] at hK
  have e1 : (if v < 1 then (1 : Int32) else if v ≤ 9 then 0 else 1) = 0 := by rw [if_neg (fun q => c1 (Or.inl q)), if_pos (Int32.not_lt.mp (fun q => c1 (Or.inr q)))]
  by_cases c2 : ring = 0
  · rw [if_pos c2] at hK
    rw [if_pos c2] at xb
    simp only [zi_wp_c, zi_wK_if, zi_wK_go, zi_wK_no, zi_wK_b, zi_wK_r, zi_wK_c, zi_cc_i, zi_cc_n, zi_B_if, zi_ifF, zx_nop, zx_iconst, zx_bipush, zx_sipush, zx_lconst, zx_ldc2_w, zx_aconst_null, zx_iload, zx_iload_n, zx_lload, zx_lload_n, zx_aload, zx_aload_n, zx_istore, zx_istore_n, zx_lstore, zx_lstore_n, zx_astore, zx_astore_n, zx_iinc, zx_iadd, zx_isub, zx_imul, zx_iand, zx_ior, zx_ishl, zx_ishr, zx_idiv, zx_irem, zx_ladd, zx_ldiv, zx_lrem, zx_lcmp, zx_i2l, zx_i2b, zx_i2s, zx_pop, zx_dup, zx_dup2, zx_getfield, zx_putfield, zx_getstatic, zx_iaload, zx_iastore, zx_laload, zx_lastore, zx_aaload, zx_arraylength, zx_goto, zx_ifCond, zx_if_icmp, zx_ifnull, zx_ifnonnull, zx_tableswitch, zx_lookupswitch, zx_ireturn, zx_lreturn, zx_areturn, zx_return_, zx_invokestatic, zx_invokevirtual, zi_ldi, zi_ldl, zi_lda, zi_sti, zi_stl, zi_sta, zi_inc, zi_b2, zi_d2, zi_l2, zi_dl2, zi_lc, zi_u1, zi_pp, zi_dup, zi_dup2, zi_gf, zi_pf, zi_ial, zi_ias, zi_lal, zi_las, zi_aal, zi_aln, zi_cp, zi_cmp, zi_if, zi_ic, zi_nul, zi_nnl, zi_sw, zi_ri, zi_rl, zi_ra, zi_rv, zi_iv, zi_ivr, zi_st1, zi_st2, zq_get0, zq_getS, zq_getN, zq_put0, zq_putS, zq_putN0, zq_putNS, zq_kl0, zq_klS, zq_Ln, zq_Li, zq_Lr, zq_Lf, zq_Lz, zq_Ll, zq_ft0, zq_fti, zq_ftr, zq_ftz, zq_ftf, zq_ftl, zq_pop0, zq_popS, zq_la0, zq_lai, zq_lar, zq_laz, zq_laf, zq_lal, zq_sh0, zq_sh1, zq_sh2, zq_sh3, zq_sh4, zq_f0, zq_f1, zq_f2, zq_f3, zq_u0, zq_u1, zq_u2, zq_ro0, zq_ro1, zq_ro2, zq_fv0, zq_fv2, zq_rfs, zq_rfn, zq_gD0, zq_gDS, zq_gDN, zq_lk0, zq_lkS, zq_tb0, zq_tbS, zq_o0, zq_o1, zq_o2, zq_o98, zq_o99, zq_o100, zq_o105, zq_o107, zq_o112, zq_o115, zq_o116, zq_c0, zq_c1, zq_v0, zq_v1, decide_eq_true_eq, List.toList_toArray, if_true, if_false, ite_self, and_true, true_and, and_false, false_and, true_or, or_true, or_false, false_or, not_true_eq_false, not_false_eq_true, Bool.false_eq_true, reduceCtorEq, ne_eq, ite_not, eq_self, Prod.mk.injEq, Nat.reduceEqDiff, Nat.reduceSub, Nat.reduceAdd, Nat.reduceLT, Nat.reduceLeDiff, zb_65_0, zc_65_0, zb_65_1, zc_65_1, zb_65_2, zc_65_2, zmt_0, zmt_1, zmt_2, zmt_3, zmt_16, zmt_17, zmt_30, zmt_31, zmt_32, zmt_45, zmt_46, zmt_54, zmt_62, zmt_70, zmt_78, zmt_86, zmt_87, zmt_88, zmt_89, zmt_90, zmt_91, zmt_92, zmt_93, zmt_94, zmt_95, zmt_96, zrc_0_0, zrc_0_1, zrc_0_2, zrc_0_3, zrc_0_4, zrc_0_5, zrc_0_6, zrc_2_3, zrc_16_3, zrc_30_0, zrc_31_3, zrc_45_0, zrc_45_1, zrc_45_2, zrc_45_3, zrc_45_4, zrc_86_1, zrc_86_2, zrc_89_0, zrc_89_1, zrc_89_4, zrc_89_5, zrc_89_6, zrc_89_7, zrc_89_8, s_x_isNoKind, c0, s_x_isNoSpun, e1, xb, s_x_refused]
    exact hK _ _ (hX.flt 0 o6) (hA 0) (fun _ _ => rfl)
  rw [if_neg c2] at hK xb
  by_cases c3 : zNo sh 3
  · rw [if_pos c3] at hK
    simp only [zi_wp_c, zi_wK_if, zi_wK_go, zi_wK_no, zi_wK_b, zi_wK_r, zi_wK_c, zi_cc_i, zi_cc_n, zi_B_if, zi_ifF, zx_nop, zx_iconst, zx_bipush, zx_sipush, zx_lconst, zx_ldc2_w, zx_aconst_null, zx_iload, zx_iload_n, zx_lload, zx_lload_n, zx_aload, zx_aload_n, zx_istore, zx_istore_n, zx_lstore, zx_lstore_n, zx_astore, zx_astore_n, zx_iinc, zx_iadd, zx_isub, zx_imul, zx_iand, zx_ior, zx_ishl, zx_ishr, zx_idiv, zx_irem, zx_ladd, zx_ldiv, zx_lrem, zx_lcmp, zx_i2l, zx_i2b, zx_i2s, zx_pop, zx_dup, zx_dup2, zx_getfield, zx_putfield, zx_getstatic, zx_iaload, zx_iastore, zx_laload, zx_lastore, zx_aaload, zx_arraylength, zx_goto, zx_ifCond, zx_if_icmp, zx_ifnull, zx_ifnonnull, zx_tableswitch, zx_lookupswitch, zx_ireturn, zx_lreturn, zx_areturn, zx_return_, zx_invokestatic, zx_invokevirtual, zi_ldi, zi_ldl, zi_lda, zi_sti, zi_stl, zi_sta, zi_inc, zi_b2, zi_d2, zi_l2, zi_dl2, zi_lc, zi_u1, zi_pp, zi_dup, zi_dup2, zi_gf, zi_pf, zi_ial, zi_ias, zi_lal, zi_las, zi_aal, zi_aln, zi_cp, zi_cmp, zi_if, zi_ic, zi_nul, zi_nnl, zi_sw, zi_ri, zi_rl, zi_ra, zi_rv, zi_iv, zi_ivr, zi_st1, zi_st2, zq_get0, zq_getS, zq_getN, zq_put0, zq_putS, zq_putN0, zq_putNS, zq_kl0, zq_klS, zq_Ln, zq_Li, zq_Lr, zq_Lf, zq_Lz, zq_Ll, zq_ft0, zq_fti, zq_ftr, zq_ftz, zq_ftf, zq_ftl, zq_pop0, zq_popS, zq_la0, zq_lai, zq_lar, zq_laz, zq_laf, zq_lal, zq_sh0, zq_sh1, zq_sh2, zq_sh3, zq_sh4, zq_f0, zq_f1, zq_f2, zq_f3, zq_u0, zq_u1, zq_u2, zq_ro0, zq_ro1, zq_ro2, zq_fv0, zq_fv2, zq_rfs, zq_rfn, zq_gD0, zq_gDS, zq_gDN, zq_lk0, zq_lkS, zq_tb0, zq_tbS, zq_o0, zq_o1, zq_o2, zq_o98, zq_o99, zq_o100, zq_o105, zq_o107, zq_o112, zq_o115, zq_o116, zq_c0, zq_c1, zq_v0, zq_v1, decide_eq_true_eq, List.toList_toArray, if_true, if_false, ite_self, and_true, true_and, and_false, false_and, true_or, or_true, or_false, false_or, not_true_eq_false, not_false_eq_true, Bool.false_eq_true, reduceCtorEq, ne_eq, ite_not, eq_self, Prod.mk.injEq, Nat.reduceEqDiff, Nat.reduceSub, Nat.reduceAdd, Nat.reduceLT, Nat.reduceLeDiff, zb_65_0, zc_65_0, zb_65_1, zc_65_1, zb_65_2, zc_65_2, zb_65_3, zc_65_3, zmt_0, zmt_1, zmt_2, zmt_3, zmt_16, zmt_17, zmt_30, zmt_31, zmt_32, zmt_45, zmt_46, zmt_54, zmt_62, zmt_70, zmt_78, zmt_86, zmt_87, zmt_88, zmt_89, zmt_90, zmt_91, zmt_92, zmt_93, zmt_94, zmt_95, zmt_96, zrc_0_0, zrc_0_1, zrc_0_2, zrc_0_3, zrc_0_4, zrc_0_5, zrc_0_6, zrc_2_3, zrc_16_3, zrc_30_0, zrc_31_3, zrc_45_0, zrc_45_1, zrc_45_2, zrc_45_3, zrc_45_4, zrc_86_1, zrc_86_2, zrc_89_0, zrc_89_1, zrc_89_4, zrc_89_5, zrc_89_6, zrc_89_7, zrc_89_8, s_x_isNoKind, c0, s_x_isNoSpun, e1, xb, d1, s_x_isNoSheet, c3, s_x_refused]
    exact hK _ _ (hX.flt 0 o6) (hA 0) (fun _ _ => rfl)
  rw [if_neg c3] at hK
  by_cases c4 : zNo lane 2
  · rw [if_pos (Or.inl c4)] at hK
    simp only [zi_wp_c, zi_wK_if, zi_wK_go, zi_wK_no, zi_wK_b, zi_wK_r, zi_wK_c, zi_cc_i, zi_cc_n, zi_B_if, zi_ifF, zx_nop, zx_iconst, zx_bipush, zx_sipush, zx_lconst, zx_ldc2_w, zx_aconst_null, zx_iload, zx_iload_n, zx_lload, zx_lload_n, zx_aload, zx_aload_n, zx_istore, zx_istore_n, zx_lstore, zx_lstore_n, zx_astore, zx_astore_n, zx_iinc, zx_iadd, zx_isub, zx_imul, zx_iand, zx_ior, zx_ishl, zx_ishr, zx_idiv, zx_irem, zx_ladd, zx_ldiv, zx_lrem, zx_lcmp, zx_i2l, zx_i2b, zx_i2s, zx_pop, zx_dup, zx_dup2, zx_getfield, zx_putfield, zx_getstatic, zx_iaload, zx_iastore, zx_laload, zx_lastore, zx_aaload, zx_arraylength, zx_goto, zx_ifCond, zx_if_icmp, zx_ifnull, zx_ifnonnull, zx_tableswitch, zx_lookupswitch, zx_ireturn, zx_lreturn, zx_areturn, zx_return_, zx_invokestatic, zx_invokevirtual, zi_ldi, zi_ldl, zi_lda, zi_sti, zi_stl, zi_sta, zi_inc, zi_b2, zi_d2, zi_l2, zi_dl2, zi_lc, zi_u1, zi_pp, zi_dup, zi_dup2, zi_gf, zi_pf, zi_ial, zi_ias, zi_lal, zi_las, zi_aal, zi_aln, zi_cp, zi_cmp, zi_if, zi_ic, zi_nul, zi_nnl, zi_sw, zi_ri, zi_rl, zi_ra, zi_rv, zi_iv, zi_ivr, zi_st1, zi_st2, zq_get0, zq_getS, zq_getN, zq_put0, zq_putS, zq_putN0, zq_putNS, zq_kl0, zq_klS, zq_Ln, zq_Li, zq_Lr, zq_Lf, zq_Lz, zq_Ll, zq_ft0, zq_fti, zq_ftr, zq_ftz, zq_ftf, zq_ftl, zq_pop0, zq_popS, zq_la0, zq_lai, zq_lar, zq_laz, zq_laf, zq_lal, zq_sh0, zq_sh1, zq_sh2, zq_sh3, zq_sh4, zq_f0, zq_f1, zq_f2, zq_f3, zq_u0, zq_u1, zq_u2, zq_ro0, zq_ro1, zq_ro2, zq_fv0, zq_fv2, zq_rfs, zq_rfn, zq_gD0, zq_gDS, zq_gDN, zq_lk0, zq_lkS, zq_tb0, zq_tbS, zq_o0, zq_o1, zq_o2, zq_o98, zq_o99, zq_o100, zq_o105, zq_o107, zq_o112, zq_o115, zq_o116, zq_c0, zq_c1, zq_v0, zq_v1, decide_eq_true_eq, List.toList_toArray, if_true, if_false, ite_self, and_true, true_and, and_false, false_and, true_or, or_true, or_false, false_or, not_true_eq_false, not_false_eq_true, Bool.false_eq_true, reduceCtorEq, ne_eq, ite_not, eq_self, Prod.mk.injEq, Nat.reduceEqDiff, Nat.reduceSub, Nat.reduceAdd, Nat.reduceLT, Nat.reduceLeDiff, zb_65_0, zc_65_0, zb_65_1, zc_65_1, zb_65_2, zc_65_2, zb_65_3, zc_65_3, zb_65_4, zc_65_4, zb_65_5, zc_65_5, zmt_0, zmt_1, zmt_2, zmt_3, zmt_16, zmt_17, zmt_30, zmt_31, zmt_32, zmt_45, zmt_46, zmt_54, zmt_62, zmt_70, zmt_78, zmt_86, zmt_87, zmt_88, zmt_89, zmt_90, zmt_91, zmt_92, zmt_93, zmt_94, zmt_95, zmt_96, zrc_0_0, zrc_0_1, zrc_0_2, zrc_0_3, zrc_0_4, zrc_0_5, zrc_0_6, zrc_2_3, zrc_16_3, zrc_30_0, zrc_31_3, zrc_45_0, zrc_45_1, zrc_45_2, zrc_45_3, zrc_45_4, zrc_86_1, zrc_86_2, zrc_89_0, zrc_89_1, zrc_89_4, zrc_89_5, zrc_89_6, zrc_89_7, zrc_89_8, s_x_isNoKind, c0, s_x_isNoSpun, e1, xb, d1, s_x_isNoSheet, c3, s_x_isNoLane, c4, s_x_refused]
    exact hK _ _ (hX.flt 0 o6) (hA 0) (fun _ _ => rfl)
  by_cases c5 : c < 1
  · rw [if_pos (Or.inr (Or.inl c5))] at hK
    simp only [zi_wp_c, zi_wK_if, zi_wK_go, zi_wK_no, zi_wK_b, zi_wK_r, zi_wK_c, zi_cc_i, zi_cc_n, zi_B_if, zi_ifF, zx_nop, zx_iconst, zx_bipush, zx_sipush, zx_lconst, zx_ldc2_w, zx_aconst_null, zx_iload, zx_iload_n, zx_lload, zx_lload_n, zx_aload, zx_aload_n, zx_istore, zx_istore_n, zx_lstore, zx_lstore_n, zx_astore, zx_astore_n, zx_iinc, zx_iadd, zx_isub, zx_imul, zx_iand, zx_ior, zx_ishl, zx_ishr, zx_idiv, zx_irem, zx_ladd, zx_ldiv, zx_lrem, zx_lcmp, zx_i2l, zx_i2b, zx_i2s, zx_pop, zx_dup, zx_dup2, zx_getfield, zx_putfield, zx_getstatic, zx_iaload, zx_iastore, zx_laload, zx_lastore, zx_aaload, zx_arraylength, zx_goto, zx_ifCond, zx_if_icmp, zx_ifnull, zx_ifnonnull, zx_tableswitch, zx_lookupswitch, zx_ireturn, zx_lreturn, zx_areturn, zx_return_, zx_invokestatic, zx_invokevirtual, zi_ldi, zi_ldl, zi_lda, zi_sti, zi_stl, zi_sta, zi_inc, zi_b2, zi_d2, zi_l2, zi_dl2, zi_lc, zi_u1, zi_pp, zi_dup, zi_dup2, zi_gf, zi_pf, zi_ial, zi_ias, zi_lal, zi_las, zi_aal, zi_aln, zi_cp, zi_cmp, zi_if, zi_ic, zi_nul, zi_nnl, zi_sw, zi_ri, zi_rl, zi_ra, zi_rv, zi_iv, zi_ivr, zi_st1, zi_st2, zq_get0, zq_getS, zq_getN, zq_put0, zq_putS, zq_putN0, zq_putNS, zq_kl0, zq_klS, zq_Ln, zq_Li, zq_Lr, zq_Lf, zq_Lz, zq_Ll, zq_ft0, zq_fti, zq_ftr, zq_ftz, zq_ftf, zq_ftl, zq_pop0, zq_popS, zq_la0, zq_lai, zq_lar, zq_laz, zq_laf, zq_lal, zq_sh0, zq_sh1, zq_sh2, zq_sh3, zq_sh4, zq_f0, zq_f1, zq_f2, zq_f3, zq_u0, zq_u1, zq_u2, zq_ro0, zq_ro1, zq_ro2, zq_fv0, zq_fv2, zq_rfs, zq_rfn, zq_gD0, zq_gDS, zq_gDN, zq_lk0, zq_lkS, zq_tb0, zq_tbS, zq_o0, zq_o1, zq_o2, zq_o98, zq_o99, zq_o100, zq_o105, zq_o107, zq_o112, zq_o115, zq_o116, zq_c0, zq_c1, zq_v0, zq_v1, decide_eq_true_eq, List.toList_toArray, if_true, if_false, ite_self, and_true, true_and, and_false, false_and, true_or, or_true, or_false, false_or, not_true_eq_false, not_false_eq_true, Bool.false_eq_true, reduceCtorEq, ne_eq, ite_not, eq_self, Prod.mk.injEq, Nat.reduceEqDiff, Nat.reduceSub, Nat.reduceAdd, Nat.reduceLT, Nat.reduceLeDiff, zb_65_0, zc_65_0, zb_65_1, zc_65_1, zb_65_2, zc_65_2, zb_65_3, zc_65_3, zb_65_4, zc_65_4, zb_65_5, zc_65_5, zmt_0, zmt_1, zmt_2, zmt_3, zmt_16, zmt_17, zmt_30, zmt_31, zmt_32, zmt_45, zmt_46, zmt_54, zmt_62, zmt_70, zmt_78, zmt_86, zmt_87, zmt_88, zmt_89, zmt_90, zmt_91, zmt_92, zmt_93, zmt_94, zmt_95, zmt_96, zrc_0_0, zrc_0_1, zrc_0_2, zrc_0_3, zrc_0_4, zrc_0_5, zrc_0_6, zrc_2_3, zrc_16_3, zrc_30_0, zrc_31_3, zrc_45_0, zrc_45_1, zrc_45_2, zrc_45_3, zrc_45_4, zrc_86_1, zrc_86_2, zrc_89_0, zrc_89_1, zrc_89_4, zrc_89_5, zrc_89_6, zrc_89_7, zrc_89_8, s_x_isNoKind, c0, s_x_isNoSpun, e1, xb, d1, s_x_isNoSheet, c3, s_x_isNoLane, c4, c5, s_x_refused]
    exact hK _ _ (hX.flt 0 o6) (hA 0) (fun _ _ => rfl)
  by_cases c6 : 5 < c
  · rw [if_pos (Or.inr (Or.inr c6))] at hK
    have c6' : ¬ c ≤ 5 := Int32.not_le.mpr c6
    simp only [zi_wp_c, zi_wK_if, zi_wK_go, zi_wK_no, zi_wK_b, zi_wK_r, zi_wK_c, zi_cc_i, zi_cc_n, zi_B_if, zi_ifF, zx_nop, zx_iconst, zx_bipush, zx_sipush, zx_lconst, zx_ldc2_w, zx_aconst_null, zx_iload, zx_iload_n, zx_lload, zx_lload_n, zx_aload, zx_aload_n, zx_istore, zx_istore_n, zx_lstore, zx_lstore_n, zx_astore, zx_astore_n, zx_iinc, zx_iadd, zx_isub, zx_imul, zx_iand, zx_ior, zx_ishl, zx_ishr, zx_idiv, zx_irem, zx_ladd, zx_ldiv, zx_lrem, zx_lcmp, zx_i2l, zx_i2b, zx_i2s, zx_pop, zx_dup, zx_dup2, zx_getfield, zx_putfield, zx_getstatic, zx_iaload, zx_iastore, zx_laload, zx_lastore, zx_aaload, zx_arraylength, zx_goto, zx_ifCond, zx_if_icmp, zx_ifnull, zx_ifnonnull, zx_tableswitch, zx_lookupswitch, zx_ireturn, zx_lreturn, zx_areturn, zx_return_, zx_invokestatic, zx_invokevirtual, zi_ldi, zi_ldl, zi_lda, zi_sti, zi_stl, zi_sta, zi_inc, zi_b2, zi_d2, zi_l2, zi_dl2, zi_lc, zi_u1, zi_pp, zi_dup, zi_dup2, zi_gf, zi_pf, zi_ial, zi_ias, zi_lal, zi_las, zi_aal, zi_aln, zi_cp, zi_cmp, zi_if, zi_ic, zi_nul, zi_nnl, zi_sw, zi_ri, zi_rl, zi_ra, zi_rv, zi_iv, zi_ivr, zi_st1, zi_st2, zq_get0, zq_getS, zq_getN, zq_put0, zq_putS, zq_putN0, zq_putNS, zq_kl0, zq_klS, zq_Ln, zq_Li, zq_Lr, zq_Lf, zq_Lz, zq_Ll, zq_ft0, zq_fti, zq_ftr, zq_ftz, zq_ftf, zq_ftl, zq_pop0, zq_popS, zq_la0, zq_lai, zq_lar, zq_laz, zq_laf, zq_lal, zq_sh0, zq_sh1, zq_sh2, zq_sh3, zq_sh4, zq_f0, zq_f1, zq_f2, zq_f3, zq_u0, zq_u1, zq_u2, zq_ro0, zq_ro1, zq_ro2, zq_fv0, zq_fv2, zq_rfs, zq_rfn, zq_gD0, zq_gDS, zq_gDN, zq_lk0, zq_lkS, zq_tb0, zq_tbS, zq_o0, zq_o1, zq_o2, zq_o98, zq_o99, zq_o100, zq_o105, zq_o107, zq_o112, zq_o115, zq_o116, zq_c0, zq_c1, zq_v0, zq_v1, decide_eq_true_eq, List.toList_toArray, if_true, if_false, ite_self, and_true, true_and, and_false, false_and, true_or, or_true, or_false, false_or, not_true_eq_false, not_false_eq_true, Bool.false_eq_true, reduceCtorEq, ne_eq, ite_not, eq_self, Prod.mk.injEq, Nat.reduceEqDiff, Nat.reduceSub, Nat.reduceAdd, Nat.reduceLT, Nat.reduceLeDiff, zb_65_0, zc_65_0, zb_65_1, zc_65_1, zb_65_2, zc_65_2, zb_65_3, zc_65_3, zb_65_4, zc_65_4, zb_65_5, zc_65_5, zmt_0, zmt_1, zmt_2, zmt_3, zmt_16, zmt_17, zmt_30, zmt_31, zmt_32, zmt_45, zmt_46, zmt_54, zmt_62, zmt_70, zmt_78, zmt_86, zmt_87, zmt_88, zmt_89, zmt_90, zmt_91, zmt_92, zmt_93, zmt_94, zmt_95, zmt_96, zrc_0_0, zrc_0_1, zrc_0_2, zrc_0_3, zrc_0_4, zrc_0_5, zrc_0_6, zrc_2_3, zrc_16_3, zrc_30_0, zrc_31_3, zrc_45_0, zrc_45_1, zrc_45_2, zrc_45_3, zrc_45_4, zrc_86_1, zrc_86_2, zrc_89_0, zrc_89_1, zrc_89_4, zrc_89_5, zrc_89_6, zrc_89_7, zrc_89_8, s_x_isNoKind, c0, s_x_isNoSpun, e1, xb, d1, s_x_isNoSheet, c3, s_x_isNoLane, c4, c5, c6', s_x_refused]
    exact hK _ _ (hX.flt 0 o6) (hA 0) (fun _ _ => rfl)
  rw [if_neg (fun h => h.elim c4 (fun h => h.elim c5 c6))] at hK
  have c6' : c ≤ 5 := Int32.not_lt.mp c6
  obtain ⟨k, hk, rfl⟩ := zNo_ex (by omega) c3
  have e2 : (nI k).toNatClampNeg = k := nI_clamp (by omega)
  have v2 : zi_vin (nI k) 4 = true := zv_nI (by omega) (by omega)
  rw [e2] at hK
  obtain ⟨hq, rk⟩ := zIsS_k k (by omega)
  have hq1 := hq.1
  obtain ⟨s1, s2, s3⟩ := xs k (by omega)
  have hs60 := (os k (by omega)).2
  have hso : zSo I (103 + 2 * k) (ln k) (sz k) := ⟨s1, s2⟩
  by_cases c7 : zFt (ln k) (sz k) lane i c = 0
  rotate_left
  · rw [if_pos c7] at hK
    simp only [zi_wp_c, zi_wK_if, zi_wK_go, zi_wK_no, zi_wK_b, zi_wK_r, zi_wK_c, zi_cc_i, zi_cc_n, zi_B_if, zi_ifF, zx_nop, zx_iconst, zx_bipush, zx_sipush, zx_lconst, zx_ldc2_w, zx_aconst_null, zx_iload, zx_iload_n, zx_lload, zx_lload_n, zx_aload, zx_aload_n, zx_istore, zx_istore_n, zx_lstore, zx_lstore_n, zx_astore, zx_astore_n, zx_iinc, zx_iadd, zx_isub, zx_imul, zx_iand, zx_ior, zx_ishl, zx_ishr, zx_idiv, zx_irem, zx_ladd, zx_ldiv, zx_lrem, zx_lcmp, zx_i2l, zx_i2b, zx_i2s, zx_pop, zx_dup, zx_dup2, zx_getfield, zx_putfield, zx_getstatic, zx_iaload, zx_iastore, zx_laload, zx_lastore, zx_aaload, zx_arraylength, zx_goto, zx_ifCond, zx_if_icmp, zx_ifnull, zx_ifnonnull, zx_tableswitch, zx_lookupswitch, zx_ireturn, zx_lreturn, zx_areturn, zx_return_, zx_invokestatic, zx_invokevirtual, zi_ldi, zi_ldl, zi_lda, zi_sti, zi_stl, zi_sta, zi_inc, zi_b2, zi_d2, zi_l2, zi_dl2, zi_lc, zi_u1, zi_pp, zi_dup, zi_dup2, zi_gf, zi_pf, zi_ial, zi_ias, zi_lal, zi_las, zi_aal, zi_aln, zi_cp, zi_cmp, zi_if, zi_ic, zi_nul, zi_nnl, zi_sw, zi_ri, zi_rl, zi_ra, zi_rv, zi_iv, zi_ivr, zi_st1, zi_st2, zq_get0, zq_getS, zq_getN, zq_put0, zq_putS, zq_putN0, zq_putNS, zq_kl0, zq_klS, zq_Ln, zq_Li, zq_Lr, zq_Lf, zq_Lz, zq_Ll, zq_ft0, zq_fti, zq_ftr, zq_ftz, zq_ftf, zq_ftl, zq_pop0, zq_popS, zq_la0, zq_lai, zq_lar, zq_laz, zq_laf, zq_lal, zq_sh0, zq_sh1, zq_sh2, zq_sh3, zq_sh4, zq_f0, zq_f1, zq_f2, zq_f3, zq_u0, zq_u1, zq_u2, zq_ro0, zq_ro1, zq_ro2, zq_fv0, zq_fv2, zq_rfs, zq_rfn, zq_gD0, zq_gDS, zq_gDN, zq_lk0, zq_lkS, zq_tb0, zq_tbS, zq_o0, zq_o1, zq_o2, zq_o98, zq_o99, zq_o100, zq_o105, zq_o107, zq_o112, zq_o115, zq_o116, zq_c0, zq_c1, zq_v0, zq_v1, decide_eq_true_eq, List.toList_toArray, if_true, if_false, ite_self, and_true, true_and, and_false, false_and, true_or, or_true, or_false, false_or, not_true_eq_false, not_false_eq_true, Bool.false_eq_true, reduceCtorEq, ne_eq, ite_not, eq_self, Prod.mk.injEq, Nat.reduceEqDiff, Nat.reduceSub, Nat.reduceAdd, Nat.reduceLT, Nat.reduceLeDiff, zb_65_0, zc_65_0, zb_65_1, zc_65_1, zb_65_2, zc_65_2, zb_65_3, zc_65_3, zb_65_4, zc_65_4, zb_65_5, zc_65_5, zb_65_6, zc_65_6, zmt_0, zmt_1, zmt_2, zmt_3, zmt_16, zmt_17, zmt_30, zmt_31, zmt_32, zmt_45, zmt_46, zmt_54, zmt_62, zmt_70, zmt_78, zmt_86, zmt_87, zmt_88, zmt_89, zmt_90, zmt_91, zmt_92, zmt_93, zmt_94, zmt_95, zmt_96, zrc_0_0, zrc_0_1, zrc_0_2, zrc_0_3, zrc_0_4, zrc_0_5, zrc_0_6, zrc_2_3, zrc_16_3, zrc_30_0, zrc_31_3, zrc_45_0, zrc_45_1, zrc_45_2, zrc_45_3, zrc_45_4, zrc_86_1, zrc_86_2, zrc_89_0, zrc_89_1, zrc_89_4, zrc_89_5, zrc_89_6, zrc_89_7, zrc_89_8, s_x_isNoKind, c0, s_x_isNoSpun, e1, xb, d1, s_x_isNoSheet, c3, s_x_isNoLane, c4, c5, c6', e2, v2, rk, hq1, s_S_faultOfTaking hq hso, c7, s_x_faulted]
    exact hK _ _ (hX.flt _ o6) (hA _) (fun _ _ => rfl)
  rw [if_neg (fun h => h c7)] at hK
  obtain ⟨-, -, j, w, hjw, rfl, rfl⟩ := zFt_0 hs60 c7
  have hw5 : 1 ≤ w ∧ w ≤ 5 := by
    simp only [zt_eq, Int32.lt_iff_toInt_lt, Int32.le_iff_toInt_le, zt_add, zt_sub, zt_neg, zt_nI, zl_0, zl_1, zl_2, zl_3, zl_4, zl_5, zl_6, zl_7, zl_8, zl_9, zl_10, zl_16, zl_20, zl_30, zl_60, zl_1080, zl_m1, zl_m2, zl_m9] at c5 c6'
    omega
  rw [show (nI j).toNatClampNeg = j from nI_clamp (by omega), show (nI w).toNatClampNeg = w from nI_clamp (by omega)] at hK
  have hsg := fun (K : Option Value → zi_M → Prop) => s_x_areSigns (sc := sc) (J := J) (K := K) hq s2 hs60 hjw (show ∀ t, t < 60 → I (103 + 2 * k + 1) t = cl k t from fun t ht => by rw [show 103 + 2 * k + 1 = 104 + 2 * k by omega]; exact s3 t ht)
  by_cases c8 : zSgs (cl k) j w
  rotate_left
  · rw [if_pos c8] at hK
    simp only [zi_wp_c, zi_wK_if, zi_wK_go, zi_wK_no, zi_wK_b, zi_wK_r, zi_wK_c, zi_cc_i, zi_cc_n, zi_B_if, zi_ifF, zx_nop, zx_iconst, zx_bipush, zx_sipush, zx_lconst, zx_ldc2_w, zx_aconst_null, zx_iload, zx_iload_n, zx_lload, zx_lload_n, zx_aload, zx_aload_n, zx_istore, zx_istore_n, zx_lstore, zx_lstore_n, zx_astore, zx_astore_n, zx_iinc, zx_iadd, zx_isub, zx_imul, zx_iand, zx_ior, zx_ishl, zx_ishr, zx_idiv, zx_irem, zx_ladd, zx_ldiv, zx_lrem, zx_lcmp, zx_i2l, zx_i2b, zx_i2s, zx_pop, zx_dup, zx_dup2, zx_getfield, zx_putfield, zx_getstatic, zx_iaload, zx_iastore, zx_laload, zx_lastore, zx_aaload, zx_arraylength, zx_goto, zx_ifCond, zx_if_icmp, zx_ifnull, zx_ifnonnull, zx_tableswitch, zx_lookupswitch, zx_ireturn, zx_lreturn, zx_areturn, zx_return_, zx_invokestatic, zx_invokevirtual, zi_ldi, zi_ldl, zi_lda, zi_sti, zi_stl, zi_sta, zi_inc, zi_b2, zi_d2, zi_l2, zi_dl2, zi_lc, zi_u1, zi_pp, zi_dup, zi_dup2, zi_gf, zi_pf, zi_ial, zi_ias, zi_lal, zi_las, zi_aal, zi_aln, zi_cp, zi_cmp, zi_if, zi_ic, zi_nul, zi_nnl, zi_sw, zi_ri, zi_rl, zi_ra, zi_rv, zi_iv, zi_ivr, zi_st1, zi_st2, zq_get0, zq_getS, zq_getN, zq_put0, zq_putS, zq_putN0, zq_putNS, zq_kl0, zq_klS, zq_Ln, zq_Li, zq_Lr, zq_Lf, zq_Lz, zq_Ll, zq_ft0, zq_fti, zq_ftr, zq_ftz, zq_ftf, zq_ftl, zq_pop0, zq_popS, zq_la0, zq_lai, zq_lar, zq_laz, zq_laf, zq_lal, zq_sh0, zq_sh1, zq_sh2, zq_sh3, zq_sh4, zq_f0, zq_f1, zq_f2, zq_f3, zq_u0, zq_u1, zq_u2, zq_ro0, zq_ro1, zq_ro2, zq_fv0, zq_fv2, zq_rfs, zq_rfn, zq_gD0, zq_gDS, zq_gDN, zq_lk0, zq_lkS, zq_tb0, zq_tbS, zq_o0, zq_o1, zq_o2, zq_o98, zq_o99, zq_o100, zq_o105, zq_o107, zq_o112, zq_o115, zq_o116, zq_c0, zq_c1, zq_v0, zq_v1, decide_eq_true_eq, List.toList_toArray, if_true, if_false, ite_self, and_true, true_and, and_false, false_and, true_or, or_true, or_false, false_or, not_true_eq_false, not_false_eq_true, Bool.false_eq_true, reduceCtorEq, ne_eq, ite_not, eq_self, Prod.mk.injEq, Nat.reduceEqDiff, Nat.reduceSub, Nat.reduceAdd, Nat.reduceLT, Nat.reduceLeDiff, zb_65_0, zc_65_0, zb_65_1, zc_65_1, zb_65_2, zc_65_2, zb_65_3, zc_65_3, zb_65_4, zc_65_4, zb_65_5, zc_65_5, zb_65_6, zc_65_6, zb_65_7, zc_65_7, zmt_0, zmt_1, zmt_2, zmt_3, zmt_16, zmt_17, zmt_30, zmt_31, zmt_32, zmt_45, zmt_46, zmt_54, zmt_62, zmt_70, zmt_78, zmt_86, zmt_87, zmt_88, zmt_89, zmt_90, zmt_91, zmt_92, zmt_93, zmt_94, zmt_95, zmt_96, zrc_0_0, zrc_0_1, zrc_0_2, zrc_0_3, zrc_0_4, zrc_0_5, zrc_0_6, zrc_2_3, zrc_16_3, zrc_30_0, zrc_31_3, zrc_45_0, zrc_45_1, zrc_45_2, zrc_45_3, zrc_45_4, zrc_86_1, zrc_86_2, zrc_89_0, zrc_89_1, zrc_89_4, zrc_89_5, zrc_89_6, zrc_89_7, zrc_89_8, s_x_isNoKind, c0, s_x_isNoSpun, e1, xb, d1, s_x_isNoSheet, c3, s_x_isNoLane, c4, c5, c6', e2, v2, rk, hq1, s_S_faultOfTaking hq hso, c7, hsg, c8, s_x_refused]
    exact hK _ _ (hX.flt 0 o6) (hA 0) (fun _ _ => rfl)
  rw [if_neg (fun h => h c8)] at hK
  simp only [if_pos c8] at hsg
  by_cases c9 : n < 6
  rotate_left
  · rw [if_pos c9] at hK
    simp only [zi_wp_c, zi_wK_if, zi_wK_go, zi_wK_no, zi_wK_b, zi_wK_r, zi_wK_c, zi_cc_i, zi_cc_n, zi_B_if, zi_ifF, zx_nop, zx_iconst, zx_bipush, zx_sipush, zx_lconst, zx_ldc2_w, zx_aconst_null, zx_iload, zx_iload_n, zx_lload, zx_lload_n, zx_aload, zx_aload_n, zx_istore, zx_istore_n, zx_lstore, zx_lstore_n, zx_astore, zx_astore_n, zx_iinc, zx_iadd, zx_isub, zx_imul, zx_iand, zx_ior, zx_ishl, zx_ishr, zx_idiv, zx_irem, zx_ladd, zx_ldiv, zx_lrem, zx_lcmp, zx_i2l, zx_i2b, zx_i2s, zx_pop, zx_dup, zx_dup2, zx_getfield, zx_putfield, zx_getstatic, zx_iaload, zx_iastore, zx_laload, zx_lastore, zx_aaload, zx_arraylength, zx_goto, zx_ifCond, zx_if_icmp, zx_ifnull, zx_ifnonnull, zx_tableswitch, zx_lookupswitch, zx_ireturn, zx_lreturn, zx_areturn, zx_return_, zx_invokestatic, zx_invokevirtual, zi_ldi, zi_ldl, zi_lda, zi_sti, zi_stl, zi_sta, zi_inc, zi_b2, zi_d2, zi_l2, zi_dl2, zi_lc, zi_u1, zi_pp, zi_dup, zi_dup2, zi_gf, zi_pf, zi_ial, zi_ias, zi_lal, zi_las, zi_aal, zi_aln, zi_cp, zi_cmp, zi_if, zi_ic, zi_nul, zi_nnl, zi_sw, zi_ri, zi_rl, zi_ra, zi_rv, zi_iv, zi_ivr, zi_st1, zi_st2, zq_get0, zq_getS, zq_getN, zq_put0, zq_putS, zq_putN0, zq_putNS, zq_kl0, zq_klS, zq_Ln, zq_Li, zq_Lr, zq_Lf, zq_Lz, zq_Ll, zq_ft0, zq_fti, zq_ftr, zq_ftz, zq_ftf, zq_ftl, zq_pop0, zq_popS, zq_la0, zq_lai, zq_lar, zq_laz, zq_laf, zq_lal, zq_sh0, zq_sh1, zq_sh2, zq_sh3, zq_sh4, zq_f0, zq_f1, zq_f2, zq_f3, zq_u0, zq_u1, zq_u2, zq_ro0, zq_ro1, zq_ro2, zq_fv0, zq_fv2, zq_rfs, zq_rfn, zq_gD0, zq_gDS, zq_gDN, zq_lk0, zq_lkS, zq_tb0, zq_tbS, zq_o0, zq_o1, zq_o2, zq_o98, zq_o99, zq_o100, zq_o105, zq_o107, zq_o112, zq_o115, zq_o116, zq_c0, zq_c1, zq_v0, zq_v1, decide_eq_true_eq, List.toList_toArray, if_true, if_false, ite_self, and_true, true_and, and_false, false_and, true_or, or_true, or_false, false_or, not_true_eq_false, not_false_eq_true, Bool.false_eq_true, reduceCtorEq, ne_eq, ite_not, eq_self, Prod.mk.injEq, Nat.reduceEqDiff, Nat.reduceSub, Nat.reduceAdd, Nat.reduceLT, Nat.reduceLeDiff, zb_65_0, zc_65_0, zb_65_1, zc_65_1, zb_65_2, zc_65_2, zb_65_3, zc_65_3, zb_65_4, zc_65_4, zb_65_5, zc_65_5, zb_65_6, zc_65_6, zb_65_7, zc_65_7, zb_65_8, zc_65_8, zmt_0, zmt_1, zmt_2, zmt_3, zmt_16, zmt_17, zmt_30, zmt_31, zmt_32, zmt_45, zmt_46, zmt_54, zmt_62, zmt_70, zmt_78, zmt_86, zmt_87, zmt_88, zmt_89, zmt_90, zmt_91, zmt_92, zmt_93, zmt_94, zmt_95, zmt_96, zrc_0_0, zrc_0_1, zrc_0_2, zrc_0_3, zrc_0_4, zrc_0_5, zrc_0_6, zrc_2_3, zrc_16_3, zrc_30_0, zrc_31_3, zrc_45_0, zrc_45_1, zrc_45_2, zrc_45_3, zrc_45_4, zrc_86_1, zrc_86_2, zrc_89_0, zrc_89_1, zrc_89_4, zrc_89_5, zrc_89_6, zrc_89_7, zrc_89_8, s_x_isNoKind, c0, s_x_isNoSpun, e1, xb, d1, s_x_isNoSheet, c3, s_x_isNoLane, c4, c5, c6', e2, v2, rk, hq1, s_S_faultOfTaking hq hso, c7, hsg, c8, s_P_spare zIsP_2 pn o6, c9, s_x_refused]
    exact hK _ _ (hX.flt 0 o6) (hA 0) (fun _ _ => rfl)
  rw [if_neg (fun h => h c9)] at hK
  obtain ⟨kd, hkd, rfl⟩ := zNo_ex (by omega) c0
  obtain ⟨v, hv, rfl⟩ := zsp_ex c1
  rw [show (nI kd).toNatClampNeg = kd from nI_clamp (by omega), show (nI v).toNatClampNeg = v from nI_clamp (by omega)] at hK
  have hRn := (zIsP_2.2.2.2 n c9).2
  rw [show 2 + 2 + 2 * n = 4 + 2 * n by omega] at hRn
  have hRn1 := hRn.1
  have key := l_x_put (sc := sc) (J := J) (K := K) (a4 := lane) (a8 := 0) (kd := kd) (sp := v) (n := n) (f := cl k) (I0 := I) c9 (show k < 4 by omega) s2 hs60 hjw hw5.2 (show kd < 3 by omega) hv s3 c8 w 0 (zi_up (zi_up (zi_up I (4 + 2 * n) 0 (nI kd)) (4 + 2 * n) 1 (nI v)) (4 + 2 * n) 2 0) (by omega)
    (((zAg.rf.up (Nat.le_refl _) (by omega)).up (Nat.le_refl _) (by omega)).up (Nat.le_refl _) (by omega))
    (by simp only [zu_up, if_true, Nat.reduceEqDiff, if_false]) (by simp only [zu_up, if_true, Nat.reduceEqDiff, if_false]) (by simp only [zu_up, if_true]; rfl) (fun u hu => absurd hu (Nat.not_lt_zero _))
  generalize hx : zNx kd v w j (cl k) = x at hK key
  rw [show nI 0 = 0 from rfl] at key
  simp only [zi_wp_c, zi_wK_if, zi_wK_go, zi_wK_no, zi_wK_b, zi_wK_r, zi_wK_c, zi_cc_i, zi_cc_n, zi_B_if, zi_ifF, zx_nop, zx_iconst, zx_bipush, zx_sipush, zx_lconst, zx_ldc2_w, zx_aconst_null, zx_iload, zx_iload_n, zx_lload, zx_lload_n, zx_aload, zx_aload_n, zx_istore, zx_istore_n, zx_lstore, zx_lstore_n, zx_astore, zx_astore_n, zx_iinc, zx_iadd, zx_isub, zx_imul, zx_iand, zx_ior, zx_ishl, zx_ishr, zx_idiv, zx_irem, zx_ladd, zx_ldiv, zx_lrem, zx_lcmp, zx_i2l, zx_i2b, zx_i2s, zx_pop, zx_dup, zx_dup2, zx_getfield, zx_putfield, zx_getstatic, zx_iaload, zx_iastore, zx_laload, zx_lastore, zx_aaload, zx_arraylength, zx_goto, zx_ifCond, zx_if_icmp, zx_ifnull, zx_ifnonnull, zx_tableswitch, zx_lookupswitch, zx_ireturn, zx_lreturn, zx_areturn, zx_return_, zx_invokestatic, zx_invokevirtual, zi_ldi, zi_ldl, zi_lda, zi_sti, zi_stl, zi_sta, zi_inc, zi_b2, zi_d2, zi_l2, zi_dl2, zi_lc, zi_u1, zi_pp, zi_dup, zi_dup2, zi_gf, zi_pf, zi_ial, zi_ias, zi_lal, zi_las, zi_aal, zi_aln, zi_cp, zi_cmp, zi_if, zi_ic, zi_nul, zi_nnl, zi_sw, zi_ri, zi_rl, zi_ra, zi_rv, zi_iv, zi_ivr, zi_st1, zi_st2, zq_get0, zq_getS, zq_getN, zq_put0, zq_putS, zq_putN0, zq_putNS, zq_kl0, zq_klS, zq_Ln, zq_Li, zq_Lr, zq_Lf, zq_Lz, zq_Ll, zq_ft0, zq_fti, zq_ftr, zq_ftz, zq_ftf, zq_ftl, zq_pop0, zq_popS, zq_la0, zq_lai, zq_lar, zq_laz, zq_laf, zq_lal, zq_sh0, zq_sh1, zq_sh2, zq_sh3, zq_sh4, zq_f0, zq_f1, zq_f2, zq_f3, zq_u0, zq_u1, zq_u2, zq_ro0, zq_ro1, zq_ro2, zq_fv0, zq_fv2, zq_rfs, zq_rfn, zq_gD0, zq_gDS, zq_gDN, zq_lk0, zq_lkS, zq_tb0, zq_tbS, zq_o0, zq_o1, zq_o2, zq_o98, zq_o99, zq_o100, zq_o105, zq_o107, zq_o112, zq_o115, zq_o116, zq_c0, zq_c1, zq_v0, zq_v1, decide_eq_true_eq, List.toList_toArray, if_true, if_false, ite_self, and_true, true_and, and_false, false_and, true_or, or_true, or_false, false_or, not_true_eq_false, not_false_eq_true, Bool.false_eq_true, reduceCtorEq, ne_eq, ite_not, eq_self, Prod.mk.injEq, Nat.reduceEqDiff, Nat.reduceSub, Nat.reduceAdd, Nat.reduceLT, Nat.reduceLeDiff, zb_65_0, zc_65_0, zb_65_1, zc_65_1, zb_65_2, zc_65_2, zb_65_3, zc_65_3, zb_65_4, zc_65_4, zb_65_5, zc_65_5, zb_65_6, zc_65_6, zb_65_7, zc_65_7, zb_65_8, zc_65_8, zb_65_9, zc_65_9, zmt_0, zmt_1, zmt_2, zmt_3, zmt_16, zmt_17, zmt_30, zmt_31, zmt_32, zmt_45, zmt_46, zmt_54, zmt_62, zmt_70, zmt_78, zmt_86, zmt_87, zmt_88, zmt_89, zmt_90, zmt_91, zmt_92, zmt_93, zmt_94, zmt_95, zmt_96, zrc_0_0, zrc_0_1, zrc_0_2, zrc_0_3, zrc_0_4, zrc_0_5, zrc_0_6, zrc_2_3, zrc_16_3, zrc_30_0, zrc_31_3, zrc_45_0, zrc_45_1, zrc_45_2, zrc_45_3, zrc_45_4, zrc_86_1, zrc_86_2, zrc_89_0, zrc_89_1, zrc_89_4, zrc_89_5, zrc_89_6, zrc_89_7, zrc_89_8, s_x_isNoKind, c0, s_x_isNoSpun, e1, xb, d1, s_x_isNoSheet, c3, s_x_isNoLane, c4, c5, c6', e2, v2, rk, hq1, s_S_faultOfTaking hq hso, c7, hsg, c8, s_P_spare zIsP_2 pn o6, c9, hRn1, s_R_begin hRn1]
  refine key (fun I' a1 a2 => ?_)
  have n2 : I' 2 2 = nI n := by rw [a1 2 (by omega)]; exact pn
  have eb : zli I' 2 n = nI (zlp ring rd n) := by
    rw [← zli_lp xps xpl (Nat.le_refl n)]
    cases n with
    | zero => show I' 2 1 = I 2 1; rw [a1 2 (by omega)]
    | succ n => show I' (2 + 2 + 2 * n) 5 = I (2 + 2 + 2 * n) 5; rw [a1 _ (by omega)]
  have hlp := zlp_le pr60 rd n
  have hts := fun (K : Option Value → zi_M → Prop) => s_P_takesSpare (sc := sc) (J := J) (K := K) zIsP_2 n2 c9 eb hlp (show zRv I' (2 + 2 + 2 * n) x by rw [show 2 + 2 + 2 * n = 4 + 2 * n by omega]; exact a2)
  simp only [show 2 + 2 + 2 * n = 4 + 2 * n by omega] at hts
  have hsp : zX ((ft, tr), (ln, sz, cl), (ring, n, rd), nr, rr, rv) I' J := hX.sp o6 (fun a h => a1 a (by dsimp only at h; omega))
  by_cases c10 : zco (zlp ring rd n) (zuR x) (zmR x) = 0
  · rw [if_pos c10] at hK
    have c10' : ¬ 0 < zco (zlp ring rd n) (zuR x) (zmR x) := by omega
    rw [zb_65_11]
    simp only [zi_wp_c, zi_wK_if, zi_wK_go, zi_wK_no, zi_wK_b, zi_wK_r, zi_wK_c, zi_cc_i, zi_cc_n, zi_B_if, zi_ifF, zx_nop, zx_iconst, zx_bipush, zx_sipush, zx_lconst, zx_ldc2_w, zx_aconst_null, zx_iload, zx_iload_n, zx_lload, zx_lload_n, zx_aload, zx_aload_n, zx_istore, zx_istore_n, zx_lstore, zx_lstore_n, zx_astore, zx_astore_n, zx_iinc, zx_iadd, zx_isub, zx_imul, zx_iand, zx_ior, zx_ishl, zx_ishr, zx_idiv, zx_irem, zx_ladd, zx_ldiv, zx_lrem, zx_lcmp, zx_i2l, zx_i2b, zx_i2s, zx_pop, zx_dup, zx_dup2, zx_getfield, zx_putfield, zx_getstatic, zx_iaload, zx_iastore, zx_laload, zx_lastore, zx_aaload, zx_arraylength, zx_goto, zx_ifCond, zx_if_icmp, zx_ifnull, zx_ifnonnull, zx_tableswitch, zx_lookupswitch, zx_ireturn, zx_lreturn, zx_areturn, zx_return_, zx_invokestatic, zx_invokevirtual, zi_ldi, zi_ldl, zi_lda, zi_sti, zi_stl, zi_sta, zi_inc, zi_b2, zi_d2, zi_l2, zi_dl2, zi_lc, zi_u1, zi_pp, zi_dup, zi_dup2, zi_gf, zi_pf, zi_ial, zi_ias, zi_lal, zi_las, zi_aal, zi_aln, zi_cp, zi_cmp, zi_if, zi_ic, zi_nul, zi_nnl, zi_sw, zi_ri, zi_rl, zi_ra, zi_rv, zi_iv, zi_ivr, zi_st1, zi_st2, zq_get0, zq_getS, zq_getN, zq_put0, zq_putS, zq_putN0, zq_putNS, zq_kl0, zq_klS, zq_Ln, zq_Li, zq_Lr, zq_Lf, zq_Lz, zq_Ll, zq_ft0, zq_fti, zq_ftr, zq_ftz, zq_ftf, zq_ftl, zq_pop0, zq_popS, zq_la0, zq_lai, zq_lar, zq_laz, zq_laf, zq_lal, zq_sh0, zq_sh1, zq_sh2, zq_sh3, zq_sh4, zq_f0, zq_f1, zq_f2, zq_f3, zq_u0, zq_u1, zq_u2, zq_ro0, zq_ro1, zq_ro2, zq_fv0, zq_fv2, zq_rfs, zq_rfn, zq_gD0, zq_gDS, zq_gDN, zq_lk0, zq_lkS, zq_tb0, zq_tbS, zq_o0, zq_o1, zq_o2, zq_o98, zq_o99, zq_o100, zq_o105, zq_o107, zq_o112, zq_o115, zq_o116, zq_c0, zq_c1, zq_v0, zq_v1, decide_eq_true_eq, List.toList_toArray, if_true, if_false, ite_self, and_true, true_and, and_false, false_and, true_or, or_true, or_false, false_or, not_true_eq_false, not_false_eq_true, Bool.false_eq_true, reduceCtorEq, ne_eq, ite_not, eq_self, Prod.mk.injEq, Nat.reduceEqDiff, Nat.reduceSub, Nat.reduceAdd, Nat.reduceLT, Nat.reduceLeDiff, zmt_0, zmt_1, zmt_2, zmt_3, zmt_16, zmt_17, zmt_30, zmt_31, zmt_32, zmt_45, zmt_46, zmt_54, zmt_62, zmt_70, zmt_78, zmt_86, zmt_87, zmt_88, zmt_89, zmt_90, zmt_91, zmt_92, zmt_93, zmt_94, zmt_95, zmt_96, zrc_0_0, zrc_0_1, zrc_0_2, zrc_0_3, zrc_0_4, zrc_0_5, zrc_0_6, zrc_2_3, zrc_16_3, zrc_30_0, zrc_31_3, zrc_45_0, zrc_45_1, zrc_45_2, zrc_45_3, zrc_45_4, zrc_86_1, zrc_86_2, zrc_89_0, zrc_89_1, zrc_89_4, zrc_89_5, zrc_89_6, zrc_89_7, zrc_89_8, zc_65_11, hts, c10', s_x_refused]
    refine hK _ _ (zX.flt (hX.sp o6 (fun a h => ?_)) 0 o6) (fun a h => ?_) (fun _ _ => rfl)
    · dsimp only at h
      rw [zu_up_ne _ (by omega), zu_up_ne _ (by omega)]
      exact a1 a (by omega)
    · rw [zu_up_ne _ (by omega), zu_up_ne _ (by omega), zu_up_ne _ (by omega)]
      exact a1 a (by omega)
  rw [if_neg c10] at hK
  have c10' : 0 < zco (zlp ring rd n) (zuR x) (zmR x) := by omega
  generalize hI2 : zi_up (zi_up (zi_up (zi_up I' (4 + 2 * n) 5 (nI (zco (zlp ring rd n) (zuR x) (zmR x)))) (4 + 2 * n) 4 (nI (zlp ring rd n / zuR x))) 2 2 (nI (n + 1))) 0 8 0 = I2
  have o2 : ∀ a, a ≠ 4 + 2 * n → a ≠ 2 → a ≠ 0 → I2 a = I' a := fun a b1 b2 b3 => by rw [← hI2, zu_up_ne _ b3, zu_up_ne _ b2, zu_up_ne _ b1, zu_up_ne _ b1]
  have n0 : ¬ 4 + 2 * n = 2 := by omega
  have n1 : ¬ 4 + 2 * n = 0 := by omega
  have n3 : ¬ 2 = 4 + 2 * n := by omega
  have n4 : ¬ 0 = 4 + 2 * n := by omega
  have q5 : I2 (4 + 2 * n) 5 = nI (zco (zlp ring rd n) (zuR x) (zmR x)) := by rw [← hI2]; simp only [zu_up, if_neg n0, if_neg n1, if_true, Nat.reduceEqDiff, if_false]
  have q4 : I2 (4 + 2 * n) 4 = nI (zlp ring rd n / zuR x) := by rw [← hI2]; simp only [zu_up, if_neg n0, if_neg n1, if_true]
  have qv : zRv I2 (4 + 2 * n) x := a2.kept (by rw [← hI2]; simp only [zu_up, if_neg n0, if_neg n1, if_true, Nat.reduceEqDiff, if_false, and_self]) (fun u _ => by rw [o2 _ (by omega) (by omega) (by omega)])
  have q22 : I2 2 2 = nI (n + 1) := by rw [← hI2]; simp only [zu_up, if_true, Nat.reduceEqDiff, if_false, if_neg n3]
  have q20 : I2 2 0 = I 2 0 ∧ I2 2 1 = I 2 1 := by rw [← a1 2 (by omega), ← hI2]; simp only [zu_up, if_true, Nat.reduceEqDiff, if_false, if_neg n3, and_self]
  have q0 : I2 0 8 = 0 ∧ I2 0 7 = tr := by rw [← xt, ← a1 0 (by omega), ← hI2]; simp only [zu_up, if_true, Nat.reduceEqDiff, if_false, if_neg n4, and_self]
  rw [zb_65_11]
  simp only [zi_wp_c, zi_wK_if, zi_wK_go, zi_wK_no, zi_wK_b, zi_wK_r, zi_wK_c, zi_cc_i, zi_cc_n, zi_B_if, zi_ifF, zx_nop, zx_iconst, zx_bipush, zx_sipush, zx_lconst, zx_ldc2_w, zx_aconst_null, zx_iload, zx_iload_n, zx_lload, zx_lload_n, zx_aload, zx_aload_n, zx_istore, zx_istore_n, zx_lstore, zx_lstore_n, zx_astore, zx_astore_n, zx_iinc, zx_iadd, zx_isub, zx_imul, zx_iand, zx_ior, zx_ishl, zx_ishr, zx_idiv, zx_irem, zx_ladd, zx_ldiv, zx_lrem, zx_lcmp, zx_i2l, zx_i2b, zx_i2s, zx_pop, zx_dup, zx_dup2, zx_getfield, zx_putfield, zx_getstatic, zx_iaload, zx_iastore, zx_laload, zx_lastore, zx_aaload, zx_arraylength, zx_goto, zx_ifCond, zx_if_icmp, zx_ifnull, zx_ifnonnull, zx_tableswitch, zx_lookupswitch, zx_ireturn, zx_lreturn, zx_areturn, zx_return_, zx_invokestatic, zx_invokevirtual, zi_ldi, zi_ldl, zi_lda, zi_sti, zi_stl, zi_sta, zi_inc, zi_b2, zi_d2, zi_l2, zi_dl2, zi_lc, zi_u1, zi_pp, zi_dup, zi_dup2, zi_gf, zi_pf, zi_ial, zi_ias, zi_lal, zi_las, zi_aal, zi_aln, zi_cp, zi_cmp, zi_if, zi_ic, zi_nul, zi_nnl, zi_sw, zi_ri, zi_rl, zi_ra, zi_rv, zi_iv, zi_ivr, zi_st1, zi_st2, zq_get0, zq_getS, zq_getN, zq_put0, zq_putS, zq_putN0, zq_putNS, zq_kl0, zq_klS, zq_Ln, zq_Li, zq_Lr, zq_Lf, zq_Lz, zq_Ll, zq_ft0, zq_fti, zq_ftr, zq_ftz, zq_ftf, zq_ftl, zq_pop0, zq_popS, zq_la0, zq_lai, zq_lar, zq_laz, zq_laf, zq_lal, zq_sh0, zq_sh1, zq_sh2, zq_sh3, zq_sh4, zq_f0, zq_f1, zq_f2, zq_f3, zq_u0, zq_u1, zq_u2, zq_ro0, zq_ro1, zq_ro2, zq_fv0, zq_fv2, zq_rfs, zq_rfn, zq_gD0, zq_gDS, zq_gDN, zq_lk0, zq_lkS, zq_tb0, zq_tbS, zq_o0, zq_o1, zq_o2, zq_o98, zq_o99, zq_o100, zq_o105, zq_o107, zq_o112, zq_o115, zq_o116, zq_c0, zq_c1, zq_v0, zq_v1, decide_eq_true_eq, List.toList_toArray, if_true, if_false, ite_self, and_true, true_and, and_false, false_and, true_or, or_true, or_false, false_or, not_true_eq_false, not_false_eq_true, Bool.false_eq_true, reduceCtorEq, ne_eq, ite_not, eq_self, Prod.mk.injEq, Nat.reduceEqDiff, Nat.reduceSub, Nat.reduceAdd, Nat.reduceLT, Nat.reduceLeDiff, zb_65_12, zc_65_12, zmt_0, zmt_1, zmt_2, zmt_3, zmt_16, zmt_17, zmt_30, zmt_31, zmt_32, zmt_45, zmt_46, zmt_54, zmt_62, zmt_70, zmt_78, zmt_86, zmt_87, zmt_88, zmt_89, zmt_90, zmt_91, zmt_92, zmt_93, zmt_94, zmt_95, zmt_96, zrc_0_0, zrc_0_1, zrc_0_2, zrc_0_3, zrc_0_4, zrc_0_5, zrc_0_6, zrc_2_3, zrc_16_3, zrc_30_0, zrc_31_3, zrc_45_0, zrc_45_1, zrc_45_2, zrc_45_3, zrc_45_4, zrc_86_1, zrc_86_2, zrc_89_0, zrc_89_1, zrc_89_4, zrc_89_5, zrc_89_6, zrc_89_7, zrc_89_8, zc_65_11, hts, c10', d1, hI2, q22]
  refine s_L_round (rd := va_up rd n x) c9 hRn (by omega) pr60 (by rw [zup_eq]; exact qv) (by rw [zlp_up (Nat.le_refl n), zup_eq]; exact q4) ?_ (fun I3 b1 b2 => ?_)
  · show zco (zlp ring (va_up rd n x) n) (zuR (va_up rd n x n)) (zmR (va_up rd n x n)) ≠ 0
    rw [zlp_up (Nat.le_refl n), zup_eq]
    exact c10
  have l3 : ∀ a, a < 45 ∨ 86 ≤ a → I3 a = I2 a := fun a h => b1 a (by omega) (by omega) (by omega) (by omega) (by omega)
  have q53 : I3 (4 + 2 * n) 5 = nI (zco (zlp ring rd n) (zuR x) (zmR x)) := by rw [l3 _ (by omega)]; exact q5
  simp only [zi_wp_c, zi_wK_if, zi_wK_go, zi_wK_no, zi_wK_b, zi_wK_r, zi_wK_c, zi_cc_i, zi_cc_n, zi_B_if, zi_ifF, zx_nop, zx_iconst, zx_bipush, zx_sipush, zx_lconst, zx_ldc2_w, zx_aconst_null, zx_iload, zx_iload_n, zx_lload, zx_lload_n, zx_aload, zx_aload_n, zx_istore, zx_istore_n, zx_lstore, zx_lstore_n, zx_astore, zx_astore_n, zx_iinc, zx_iadd, zx_isub, zx_imul, zx_iand, zx_ior, zx_ishl, zx_ishr, zx_idiv, zx_irem, zx_ladd, zx_ldiv, zx_lrem, zx_lcmp, zx_i2l, zx_i2b, zx_i2s, zx_pop, zx_dup, zx_dup2, zx_getfield, zx_putfield, zx_getstatic, zx_iaload, zx_iastore, zx_laload, zx_lastore, zx_aaload, zx_arraylength, zx_goto, zx_ifCond, zx_if_icmp, zx_ifnull, zx_ifnonnull, zx_tableswitch, zx_lookupswitch, zx_ireturn, zx_lreturn, zx_areturn, zx_return_, zx_invokestatic, zx_invokevirtual, zi_ldi, zi_ldl, zi_lda, zi_sti, zi_stl, zi_sta, zi_inc, zi_b2, zi_d2, zi_l2, zi_dl2, zi_lc, zi_u1, zi_pp, zi_dup, zi_dup2, zi_gf, zi_pf, zi_ial, zi_ias, zi_lal, zi_las, zi_aal, zi_aln, zi_cp, zi_cmp, zi_if, zi_ic, zi_nul, zi_nnl, zi_sw, zi_ri, zi_rl, zi_ra, zi_rv, zi_iv, zi_ivr, zi_st1, zi_st2, zq_get0, zq_getS, zq_getN, zq_put0, zq_putS, zq_putN0, zq_putNS, zq_kl0, zq_klS, zq_Ln, zq_Li, zq_Lr, zq_Lf, zq_Lz, zq_Ll, zq_ft0, zq_fti, zq_ftr, zq_ftz, zq_ftf, zq_ftl, zq_pop0, zq_popS, zq_la0, zq_lai, zq_lar, zq_laz, zq_laf, zq_lal, zq_sh0, zq_sh1, zq_sh2, zq_sh3, zq_sh4, zq_f0, zq_f1, zq_f2, zq_f3, zq_u0, zq_u1, zq_u2, zq_ro0, zq_ro1, zq_ro2, zq_fv0, zq_fv2, zq_rfs, zq_rfn, zq_gD0, zq_gDS, zq_gDN, zq_lk0, zq_lkS, zq_tb0, zq_tbS, zq_o0, zq_o1, zq_o2, zq_o98, zq_o99, zq_o100, zq_o105, zq_o107, zq_o112, zq_o115, zq_o116, zq_c0, zq_c1, zq_v0, zq_v1, decide_eq_true_eq, List.toList_toArray, if_true, if_false, ite_self, and_true, true_and, and_false, false_and, true_or, or_true, or_false, false_or, not_true_eq_false, not_false_eq_true, Bool.false_eq_true, reduceCtorEq, ne_eq, ite_not, eq_self, Prod.mk.injEq, Nat.reduceEqDiff, Nat.reduceSub, Nat.reduceAdd, Nat.reduceLT, Nat.reduceLeDiff, zmt_0, zmt_1, zmt_2, zmt_3, zmt_16, zmt_17, zmt_30, zmt_31, zmt_32, zmt_45, zmt_46, zmt_54, zmt_62, zmt_70, zmt_78, zmt_86, zmt_87, zmt_88, zmt_89, zmt_90, zmt_91, zmt_92, zmt_93, zmt_94, zmt_95, zmt_96, zrc_0_0, zrc_0_1, zrc_0_2, zrc_0_3, zrc_0_4, zrc_0_5, zrc_0_6, zrc_2_3, zrc_16_3, zrc_30_0, zrc_31_3, zrc_45_0, zrc_45_1, zrc_45_2, zrc_45_3, zrc_45_4, zrc_86_1, zrc_86_2, zrc_89_0, zrc_89_1, zrc_89_4, zrc_89_5, zrc_89_6, zrc_89_7, zrc_89_8, hRn1, q53]
  have k3 : ∀ a, a < 45 ∨ 86 ≤ a → a ≠ 4 + 2 * n → a ≠ 5 + 2 * n → a ≠ 2 → a ≠ 0 → I3 a = I a := fun a h0 h1 h2 h3 h4 => by rw [l3 a h0, o2 a h1 h3 h4, a1 a (by omega)]
  refine hK _ _ ⟨⟨?_, ?_⟩, xs.kept (fun a _ _ => k3 a (by omega) (by omega) (by omega) (by omega) (by omega)), ?_, xr.kept (fun a _ _ => k3 a (by omega) (by omega) (by omega) (by omega) (by omega)), ?_, xq.kept (fun a _ _ => k3 a (by omega) (by omega) (by omega) (by omega) (by omega)), x1.kept (fun a _ _ => k3 a (by omega) (by omega) (by omega) (by omega) (by omega)), x2.kept (fun a _ _ => k3 a (by omega) (by omega) (by omega) (by omega) (by omega)) (fun _ _ _ => rfl)⟩ (fun a h => k3 a (by omega) (by omega) (by omega) (by omega) (by omega)) (fun _ _ => rfl)
  · rw [l3 0 (by omega)]; exact q0.1
  · rw [l3 0 (by omega)]; exact q0.2
  · refine xp.app c9 (fun a h1 h2 => k3 a (by omega) (by omega) (by omega) (by omega) (by omega)) ?_ ?_ ?_ (qv.kept (by rw [l3 _ (by omega)]; exact ⟨rfl, rfl, rfl⟩) (fun u _ => by rw [l3 _ (by omega)])) q53 (by rw [l3 _ (by omega)]; exact q4)
    · rw [l3 2 (by omega)]; exact q20.1
    · rw [l3 2 (by omega)]; exact q20.2
    · rw [l3 2 (by omega)]; exact q22
  · have xl2 : zLy I2 ring n rd := xl.kept o6 (fun a _ _ => by rw [o2 a (by omega) (by omega) (by omega), a1 a (by omega)])
    exact xl2.app c9 b1 b2
