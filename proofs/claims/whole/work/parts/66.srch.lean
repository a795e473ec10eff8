/-! the search on x's side -/
theorem zset_99 (l : List Nat) (i x v : Nat) (h : i < l.length) : (l.set i x).getD v 99 = if v = i then x else l.getD v 99 := by
  rw [List.getD_eq_getElem?_getD, List.getD_eq_getElem?_getD, List.getElem?_set]
  by_cases e : v = i
  · rw [if_pos e, if_pos e.symm, if_pos h]; rfl
  · rw [if_neg e, if_neg (fun q => e q.symm)]
theorem zapp_getD (l : List Nat) (x i : Nat) (h : i ≤ l.length) : (l ++ [x]).getD i 0 = if i = l.length then x else l.getD i 0 := by
  rw [List.getD_eq_getElem?_getD, List.getD_eq_getElem?_getD]
  by_cases e : i = l.length
  · rw [if_pos e, e, List.getElem?_append_right (Nat.le_refl _), Nat.sub_self]; rfl
  · rw [if_neg e, List.getElem?_append_left (by omega)]
/-- the search's rows hold s -/
def zBm (I : Nat → Nat → Int32) (s : zBt) : Prop := ((s.1.length = 61 ∧ s.2.1.length = 61 ∧ s.2.2.1.length = 61) ∧ s.2.2.2.length ≤ 60 ∧ (∀ v, v ≤ 60 → s.1.getD v 99 = 99 ∨ s.1.getD v 99 < s.2.2.2.length) ∧ ∀ i, i < s.2.2.2.length → (1 ≤ s.2.2.2.getD i 0 ∧ s.2.2.2.getD i 0 ≤ 60) ∧ s.1.getD (s.2.2.2.getD i 0) 99 ≠ 99) ∧
  (∀ v, v ≤ 60 → I 92 v = zrI (s.1.getD v 99)) ∧ (∀ v, v ≤ 60 → s.1.getD v 99 ≠ 99 → s.1.getD v 99 ≠ 0 → I 93 v = nI (s.2.1.getD v 0) ∧ I 94 v = nI (s.2.2.1.getD v 0)) ∧ ∀ i, i < s.2.2.2.length → I 95 i = nI (s.2.2.2.getD i 0)
def zBp (a : Nat) (s : zBt) (t : Nat) : zBt := (List.range t).foldl (zB1 a) s
theorem zBp_s (a : Nat) (s : zBt) (t : Nat) : zBp a s (t + 1) = zB1 a (zBp a s t) t := by
  unfold zBp
  rw [List.range_succ, List.foldl_append]
  rfl
theorem zB2_p (a : Nat) (s : zBt) : zB2 a s = zBp a s 30 := rfl
theorem zrI_9 {d : Nat} (h : d = 99 ∨ d < 60) : zrI d = -9 ↔ d = 99 := by
  unfold zrI
  by_cases e : d = 99
  · rw [if_pos e]; exact ⟨fun _ => e, fun _ => rfl⟩
  · rw [if_neg e]
    have h2 := h.resolve_left e
    refine ⟨fun q => ?_, fun q => absurd q e⟩
    simp only [zt_eq, Int32.lt_iff_toInt_lt, Int32.le_iff_toInt_le, zt_add, zt_sub, zt_neg, zt_nI, zl_0, zl_1, zl_2, zl_3, zl_4, zl_5, zl_6, zl_7, zl_8, zl_9, zl_10, zl_16, zl_20, zl_30, zl_60, zl_1080, zl_m1, zl_m2, zl_m9] at q
    omega
section ZSR
variable {sc : Nat × (Nat → Int32)} {J : Nat → Nat → Int64} {K : Option Value → zi_M → Prop} {S : zS}
theorem zBm.put {I I' : Nat → Nat → Int32} {s : zBt} {a p z : Nat} (h : zBm I s) (hz : 1 ≤ z ∧ z ≤ 60) (h99 : s.1.getD z 99 = 99) (hq : s.2.2.2.length < 60) (ha : a ≤ 60) (had : s.1.getD a 99 ≠ 99)
    (e1 : ∀ v, I' 92 v = if v = z then nI (s.1.getD a 99 + 1) else I 92 v) (e2 : ∀ v, I' 93 v = if v = z then nI a else I 93 v) (e3 : ∀ v, I' 94 v = if v = z then nI p else I 94 v) (e4 : ∀ v, I' 95 v = if v = s.2.2.2.length then nI z else I 95 v) : zBm I' (s.1.set z (s.1.getD a 99 + 1), s.2.1.set z a, s.2.2.1.set z p, s.2.2.2 ++ [z]) := by
  obtain ⟨⟨⟨l1, l2, l3⟩, l4, l5, l6⟩, m1, m2, m3⟩ := h
  have hda := (l5 a ha).resolve_left had
  have g1 : ∀ v, (s.1.set z (s.1.getD a 99 + 1)).getD v 99 = if v = z then s.1.getD a 99 + 1 else s.1.getD v 99 := fun v => zset_99 _ _ _ _ (by omega)
  have g2 : ∀ v, (s.2.1.set z a).getD v 0 = if v = z then a else s.2.1.getD v 0 := fun v => zset_getD _ _ _ _ (by omega)
  have g3 : ∀ v, (s.2.2.1.set z p).getD v 0 = if v = z then p else s.2.2.1.getD v 0 := fun v => zset_getD _ _ _ _ (by omega)
  have g4 : ∀ i, i ≤ s.2.2.2.length → (s.2.2.2 ++ [z]).getD i 0 = if i = s.2.2.2.length then z else s.2.2.2.getD i 0 := fun i hi => zapp_getD _ _ _ hi
  have gl : (s.2.2.2 ++ [z]).length = s.2.2.2.length + 1 := by rw [List.length_append]; rfl
  refine ⟨⟨⟨by rw [List.length_set]; exact l1, by rw [List.length_set]; exact l2, by rw [List.length_set]; exact l3⟩, ?_, fun v hv => ?_, fun i hi => ?_⟩, fun v hv => ?_, fun v hv => ?_, fun i hi => ?_⟩
  · show (s.2.2.2 ++ [z]).length ≤ 60
    omega
  · show (s.1.set z (s.1.getD a 99 + 1)).getD v 99 = 99 ∨ (s.1.set z (s.1.getD a 99 + 1)).getD v 99 < (s.2.2.2 ++ [z]).length
    rw [g1, gl]
    by_cases e : v = z
    · rw [if_pos e]; exact Or.inr (by omega)
    · rw [if_neg e]
      rcases l5 v hv with q | q
      · exact Or.inl q
      · exact Or.inr (by omega)
  · have hi' : i < (s.2.2.2 ++ [z]).length := hi
    rw [gl] at hi'
    show (1 ≤ (s.2.2.2 ++ [z]).getD i 0 ∧ (s.2.2.2 ++ [z]).getD i 0 ≤ 60) ∧ (s.1.set z (s.1.getD a 99 + 1)).getD ((s.2.2.2 ++ [z]).getD i 0) 99 ≠ 99
    rw [g1, g4 i (by omega)]
    by_cases e : i = s.2.2.2.length
    · rw [if_pos e, if_pos rfl]
      exact ⟨hz, by omega⟩
    · rw [if_neg e]
      obtain ⟨q1, q2⟩ := l6 i (by omega)
      refine ⟨q1, ?_⟩
      by_cases e2 : s.2.2.2.getD i 0 = z
      · rw [if_pos e2]; omega
      · rw [if_neg e2]; exact q2
  · show I' 92 v = zrI ((s.1.set z (s.1.getD a 99 + 1)).getD v 99)
    rw [g1, e1]
    by_cases e : v = z
    · rw [if_pos e, if_pos e]
      unfold zrI
      rw [if_neg (by omega)]
    · rw [if_neg e, if_neg e]; exact m1 v hv
  · show (s.1.set z (s.1.getD a 99 + 1)).getD v 99 ≠ 99 → (s.1.set z (s.1.getD a 99 + 1)).getD v 99 ≠ 0 → I' 93 v = nI ((s.2.1.set z a).getD v 0) ∧ I' 94 v = nI ((s.2.2.1.set z p).getD v 0)
    rw [g1, g2, g3, e2, e3]
    by_cases e : v = z
    · rw [if_pos e, if_pos e, if_pos e, if_pos e, if_pos e]; exact fun _ _ => ⟨rfl, rfl⟩
    · rw [if_neg e, if_neg e, if_neg e, if_neg e, if_neg e]; exact m2 v hv
  · have hi' : i < (s.2.2.2 ++ [z]).length := hi
    rw [gl] at hi'
    show I' 95 i = nI ((s.2.2.2 ++ [z]).getD i 0)
    rw [g4 i (by omega), e4]
    by_cases e : i = s.2.2.2.length
    · rw [if_pos e, if_pos e]
    · rw [if_neg e, if_neg e]; exact m3 i (by omega)
theorem zPt.ag {I I' : Nat → Nat → Int32} (h : zPt I) (ha : zAg 92 96 I I') : zPt I' := fun q hq => by rw [ha 90 (by omega), ha 91 (by omega)]; exact h q hq
theorem l_N_g1 {a : Nat} {b2 : Int32} {s0 : zBt} (ha : 1 ≤ a ∧ a ≤ 60) : ∀ d t (I : Nat → Nat → Int32) (tl : zL1), t + d = 30 → (tl = [] ∨ ∃ x : Int32, tl = [some (.int x)]) → zPt I → zBm I (zBp a s0 t) → (zBp a s0 t).1.getD a 99 ≠ 99 →
    (∀ I', zAg 92 96 I I' → zBm I' (zBp a s0 30) → K (some (.int (nI (zBp a s0 30).2.2.2.length))) (zm I' J)) →
    zi_B sc 0 0 30 1 ([some (.ref 89), some (.int (nI a)), some (.int b2), some (.int (nI (zBp a s0 t).2.2.2.length)), some (.int (nI t))] ++ tl) [] (zm I J) K := by
  have ea : (nI a).toNatClampNeg = a := nI_clamp (by omega)
  have va : zi_vin (nI a) 61 = true := zv_nI (by omega) (by omega)
  intro d
  induction d with
  | zero =>
    intro t I tl ht hl hpt hm had hK
    have : t = 30 := by omega
    subst this
    have c1 : (30 : Int32) ≤ nI 30 := by decide
    rw [zb_30_1]
    rcases hl with rfl | ⟨x, rfl⟩
    all_goals simp only [List.append_nil, List.cons_append, List.nil_append]
    all_goals simp only [zi_wp_c, zi_wK_if, zi_wK_go, zi_wK_no, zi_wK_b, zi_wK_r, zi_wK_c, zi_cc_i, zi_cc_n, zi_B_if, zi_ifF, zx_nop, zx_iconst, zx_bipush, zx_sipush, zx_lconst, zx_ldc2_w, zx_aconst_null, zx_iload, zx_iload_n, zx_lload, zx_lload_n, zx_aload, zx_aload_n, zx_istore, zx_istore_n, zx_lstore, zx_lstore_n, zx_astore, zx_astore_n, zx_iinc, zx_iadd, zx_isub, zx_imul, zx_iand, zx_ior, zx_ishl, zx_ishr, zx_idiv, zx_irem, zx_ladd, zx_ldiv, zx_lrem, zx_lcmp, zx_i2l, zx_i2b, zx_i2s, zx_pop, zx_dup, zx_dup2, zx_getfield, zx_putfield, zx_getstatic, zx_iaload, zx_iastore, zx_laload, zx_lastore, zx_aaload, zx_arraylength, zx_goto, zx_ifCond, zx_if_icmp, zx_ifnull, zx_ifnonnull, zx_tableswitch, zx_lookupswitch, zx_ireturn, zx_lreturn, zx_areturn, zx_return_, zx_invokestatic, zx_invokevirtual, zi_ldi, zi_ldl, zi_lda, zi_sti, zi_stl, zi_sta, zi_inc, zi_b2, zi_d2, zi_l2, zi_dl2, zi_lc, zi_u1, zi_pp, zi_dup, zi_dup2, zi_gf, zi_pf, zi_ial, zi_ias, zi_lal, zi_las, zi_aal, zi_aln, zi_cp, zi_cmp, zi_if, zi_ic, zi_nul, zi_nnl, zi_sw, zi_ri, zi_rl, zi_ra, zi_rv, zi_iv, zi_ivr, zi_st1, zi_st2, zq_get0, zq_getS, zq_getN, zq_put0, zq_putS, zq_putN0, zq_putNS, zq_kl0, zq_klS, zq_Ln, zq_Li, zq_Lr, zq_Lf, zq_Lz, zq_Ll, zq_ft0, zq_fti, zq_ftr, zq_ftz, zq_ftf, zq_ftl, zq_pop0, zq_popS, zq_la0, zq_lai, zq_lar, zq_laz, zq_laf, zq_lal, zq_sh0, zq_sh1, zq_sh2, zq_sh3, zq_sh4, zq_f0, zq_f1, zq_f2, zq_f3, zq_u0, zq_u1, zq_u2, zq_ro0, zq_ro1, zq_ro2, zq_fv0, zq_fv2, zq_rfs, zq_rfn, zq_gD0, zq_gDS, zq_gDN, zq_lk0, zq_lkS, zq_tb0, zq_tbS, zq_o0, zq_o1, zq_o2, zq_o98, zq_o99, zq_o100, zq_o105, zq_o107, zq_o112, zq_o115, zq_o116, zq_c0, zq_c1, zq_v0, zq_v1, decide_eq_true_eq, List.toList_toArray, if_true, if_false, ite_self, and_true, true_and, and_false, false_and, true_or, or_true, or_false, false_or, not_true_eq_false, not_false_eq_true, Bool.false_eq_true, reduceCtorEq, ne_eq, ite_not, eq_self, Prod.mk.injEq, Nat.reduceEqDiff, Nat.reduceSub, Nat.reduceAdd, Nat.reduceLT, Nat.reduceLeDiff, zb_30_3, zc_30_3, zc_30_1, c1]
    all_goals exact hK I zAg.rf hm
  | succ d ih =>
    intro t I tl ht hl hpt hm had hK
    have c1 : ¬ (30 : Int32) ≤ nI t := by (simp only [zt_eq, Int32.lt_iff_toInt_lt, Int32.le_iff_toInt_le, zt_add, zt_sub, zt_neg, zt_nI, zl_0, zl_1, zl_2, zl_3, zl_4, zl_5, zl_6, zl_7, zl_8, zl_9, zl_10, zl_16, zl_20, zl_30, zl_60, zl_1080, zl_m1, zl_m2, zl_m9]; omega)
    have e1 : (nI t).toNatClampNeg = t := nI_clamp (by omega)
    have v1 : zi_vin (nI t) 30 = true := zv_nI (by omega) (by omega)
    obtain ⟨f1, f2⟩ := hpt t (by omega)
    have hpu := zpu_le t
    have hpm := zpm_le t
    have hlu := fun (K : Option Value → zi_M → Prop) (M : zi_M) => s_x_loopsUpon (sc := sc) (K := K) (M := M) (b := a) (u := zpu t) (m := zpm t) (by omega) (by omega) (by omega)
    have hz := zco_le a (zpu t) (zpm t)
    have hs : zBp a s0 (t + 1) = zB1 a (zBp a s0 t) t := zBp_s a s0 t
    unfold zB1 at hs
    have ih' := ih (t + 1)
    generalize zBp a s0 t = s at hm had hs
    generalize zco a (zpu t) (zpm t) = z at hlu hz hs
    obtain ⟨⟨⟨l1, l2, l3⟩, l4, l5, l6⟩, m1, m2, m3⟩ := id hm
    by_cases c2 : 0 < z
    · have c2' : ¬ nI z ≤ 0 := by (simp only [zt_eq, Int32.lt_iff_toInt_lt, Int32.le_iff_toInt_le, zt_add, zt_sub, zt_neg, zt_nI, zl_0, zl_1, zl_2, zl_3, zl_4, zl_5, zl_6, zl_7, zl_8, zl_9, zl_10, zl_16, zl_20, zl_30, zl_60, zl_1080, zl_m1, zl_m2, zl_m9]; omega)
      have ez : (nI z).toNatClampNeg = z := nI_clamp (by omega)
      have vz : zi_vin (nI z) 61 = true := zv_nI (by omega) (by omega)
      have g := m1 z hz
      have gi := zrI_9 (d := s.1.getD z 99) (by rcases l5 z hz with q | q <;> omega)
      by_cases c3 : s.1.getD z 99 = 99
      · have c3' : zrI (s.1.getD z 99) = -9 := gi.mpr c3
        by_cases c4 : s.2.2.2.length < 60
        · rw [if_pos ⟨c2, c3, c4⟩] at hs
          have c4' : ¬ (60 : Int32) ≤ nI s.2.2.2.length := by (simp only [zt_eq, Int32.lt_iff_toInt_lt, Int32.le_iff_toInt_le, zt_add, zt_sub, zt_neg, zt_nI, zl_0, zl_1, zl_2, zl_3, zl_4, zl_5, zl_6, zl_7, zl_8, zl_9, zl_10, zl_16, zl_20, zl_30, zl_60, zl_1080, zl_m1, zl_m2, zl_m9]; omega)
          have el : (nI s.2.2.2.length).toNatClampNeg = s.2.2.2.length := nI_clamp (by omega)
          have vl : zi_vin (nI s.2.2.2.length) 60 = true := zv_nI (by omega) (by omega)
          have ga : I 92 a = nI (s.1.getD a 99) := by rw [m1 a (by omega)]; unfold zrI; rw [if_neg had]
          have hne : a ≠ z := fun q => had (by rw [q]; exact c3)
          generalize hI1 : zi_up (zi_up (zi_up (zi_up I 92 z (nI (s.1.getD a 99 + 1))) 93 z (nI a)) 94 z (nI t)) 95 s.2.2.2.length (nI z) = I1
          have hag : zAg 92 96 I I1 := by rw [← hI1]; exact ((((zAg.rf.up (by omega) (by omega)).up (by omega) (by omega)).up (by omega) (by omega)).up (by omega) (by omega))
          have hm2 : zBm I1 (zBp a s0 (t + 1)) := by
            rw [hs]
            refine hm.put ⟨c2, hz⟩ c3 c4 ha.2 had (fun v => ?_) (fun v => ?_) (fun v => ?_) (fun v => ?_)
            all_goals rw [← hI1]; simp only [zu_up, if_true, Nat.reduceEqDiff, if_false]
          have hlen : (zBp a s0 (t + 1)).2.2.2.length = s.2.2.2.length + 1 := by rw [hs]; show (s.2.2.2 ++ [z]).length = _; rw [List.length_append]; rfl
          have ih2 := ih' I1 [some (.int (nI z))] (by omega) (Or.inr ⟨_, rfl⟩) (hpt.ag hag) hm2 (by rw [hs]; show (s.1.set z _).getD a 99 ≠ 99; rw [zset_99 _ _ _ _ (by omega), if_neg hne]; exact had) (fun I' g1 g2 => hK I' (hag.tr g1) g2)
          rw [hlen] at ih2
          simp only [List.cons_append, List.nil_append] at ih2
          rw [zb_30_1]
          rcases hl with rfl | ⟨x, rfl⟩
          all_goals simp only [List.append_nil, List.cons_append, List.nil_append]
          all_goals simp only [zi_wp_c, zi_wK_if, zi_wK_go, zi_wK_no, zi_wK_b, zi_wK_r, zi_wK_c, zi_cc_i, zi_cc_n, zi_B_if, zi_ifF, zx_nop, zx_iconst, zx_bipush, zx_sipush, zx_lconst, zx_ldc2_w, zx_aconst_null, zx_iload, zx_iload_n, zx_lload, zx_lload_n, zx_aload, zx_aload_n, zx_istore, zx_istore_n, zx_lstore, zx_lstore_n, zx_astore, zx_astore_n, zx_iinc, zx_iadd, zx_isub, zx_imul, zx_iand, zx_ior, zx_ishl, zx_ishr, zx_idiv, zx_irem, zx_ladd, zx_ldiv, zx_lrem, zx_lcmp, zx_i2l, zx_i2b, zx_i2s, zx_pop, zx_dup, zx_dup2, zx_getfield, zx_putfield, zx_getstatic, zx_iaload, zx_iastore, zx_laload, zx_lastore, zx_aaload, zx_arraylength, zx_goto, zx_ifCond, zx_if_icmp, zx_ifnull, zx_ifnonnull, zx_tableswitch, zx_lookupswitch, zx_ireturn, zx_lreturn, zx_areturn, zx_return_, zx_invokestatic, zx_invokevirtual, zi_ldi, zi_ldl, zi_lda, zi_sti, zi_stl, zi_sta, zi_inc, zi_b2, zi_d2, zi_l2, zi_dl2, zi_lc, zi_u1, zi_pp, zi_dup, zi_dup2, zi_gf, zi_pf, zi_ial, zi_ias, zi_lal, zi_las, zi_aal, zi_aln, zi_cp, zi_cmp, zi_if, zi_ic, zi_nul, zi_nnl, zi_sw, zi_ri, zi_rl, zi_ra, zi_rv, zi_iv, zi_ivr, zi_st1, zi_st2, zq_get0, zq_getS, zq_getN, zq_put0, zq_putS, zq_putN0, zq_putNS, zq_kl0, zq_klS, zq_Ln, zq_Li, zq_Lr, zq_Lf, zq_Lz, zq_Ll, zq_ft0, zq_fti, zq_ftr, zq_ftz, zq_ftf, zq_ftl, zq_pop0, zq_popS, zq_la0, zq_lai, zq_lar, zq_laz, zq_laf, zq_lal, zq_sh0, zq_sh1, zq_sh2, zq_sh3, zq_sh4, zq_f0, zq_f1, zq_f2, zq_f3, zq_u0, zq_u1, zq_u2, zq_ro0, zq_ro1, zq_ro2, zq_fv0, zq_fv2, zq_rfs, zq_rfn, zq_gD0, zq_gDS, zq_gDN, zq_lk0, zq_lkS, zq_tb0, zq_tbS, zq_o0, zq_o1, zq_o2, zq_o98, zq_o99, zq_o100, zq_o105, zq_o107, zq_o112, zq_o115, zq_o116, zq_c0, zq_c1, zq_v0, zq_v1, decide_eq_true_eq, List.toList_toArray, if_true, if_false, ite_self, and_true, true_and, and_false, false_and, true_or, or_true, or_false, false_or, not_true_eq_false, not_false_eq_true, Bool.false_eq_true, reduceCtorEq, ne_eq, ite_not, eq_self, Prod.mk.injEq, Nat.reduceEqDiff, Nat.reduceSub, Nat.reduceAdd, Nat.reduceLT, Nat.reduceLeDiff, zb_30_2, zc_30_2, zmt_0, zmt_1, zmt_2, zmt_3, zmt_16, zmt_17, zmt_30, zmt_31, zmt_32, zmt_45, zmt_46, zmt_54, zmt_62, zmt_70, zmt_78, zmt_86, zmt_87, zmt_88, zmt_89, zmt_90, zmt_91, zmt_92, zmt_93, zmt_94, zmt_95, zmt_96, zrc_0_0, zrc_0_1, zrc_0_2, zrc_0_3, zrc_0_4, zrc_0_5, zrc_0_6, zrc_2_3, zrc_16_3, zrc_30_0, zrc_31_3, zrc_45_0, zrc_45_1, zrc_45_2, zrc_45_3, zrc_45_4, zrc_86_1, zrc_86_2, zrc_89_0, zrc_89_1, zrc_89_4, zrc_89_5, zrc_89_6, zrc_89_7, zrc_89_8, zc_30_1, c1, e1, v1, f1, f2, hlu, c2', ez, vz, g, c3', c4', ea, va, ga, nI_1, el, vl, hI1]
          all_goals exact ih2
        · rw [if_neg (fun q => c4 q.2.2)] at hs
          have c4' : (60 : Int32) ≤ nI s.2.2.2.length := by (simp only [zt_eq, Int32.lt_iff_toInt_lt, Int32.le_iff_toInt_le, zt_add, zt_sub, zt_neg, zt_nI, zl_0, zl_1, zl_2, zl_3, zl_4, zl_5, zl_6, zl_7, zl_8, zl_9, zl_10, zl_16, zl_20, zl_30, zl_60, zl_1080, zl_m1, zl_m2, zl_m9]; omega)
          have ih2 := ih' I [some (.int (nI z))] (by omega) (Or.inr ⟨_, rfl⟩) hpt (by rw [hs]; exact hm) (by rw [hs]; exact had) hK
          rw [hs] at ih2
          simp only [List.cons_append, List.nil_append] at ih2
          rw [zb_30_1]
          rcases hl with rfl | ⟨x, rfl⟩
          all_goals simp only [List.append_nil, List.cons_append, List.nil_append]
          all_goals simp only [zi_wp_c, zi_wK_if, zi_wK_go, zi_wK_no, zi_wK_b, zi_wK_r, zi_wK_c, zi_cc_i, zi_cc_n, zi_B_if, zi_ifF, zx_nop, zx_iconst, zx_bipush, zx_sipush, zx_lconst, zx_ldc2_w, zx_aconst_null, zx_iload, zx_iload_n, zx_lload, zx_lload_n, zx_aload, zx_aload_n, zx_istore, zx_istore_n, zx_lstore, zx_lstore_n, zx_astore, zx_astore_n, zx_iinc, zx_iadd, zx_isub, zx_imul, zx_iand, zx_ior, zx_ishl, zx_ishr, zx_idiv, zx_irem, zx_ladd, zx_ldiv, zx_lrem, zx_lcmp, zx_i2l, zx_i2b, zx_i2s, zx_pop, zx_dup, zx_dup2, zx_getfield, zx_putfield, zx_getstatic, zx_iaload, zx_iastore, zx_laload, zx_lastore, zx_aaload, zx_arraylength, zx_goto, zx_ifCond, zx_if_icmp, zx_ifnull, zx_ifnonnull, zx_tableswitch, zx_lookupswitch, zx_ireturn, zx_lreturn, zx_areturn, zx_return_, zx_invokestatic, zx_invokevirtual, zi_ldi, zi_ldl, zi_lda, zi_sti, zi_stl, zi_sta, zi_inc, zi_b2, zi_d2, zi_l2, zi_dl2, zi_lc, zi_u1, zi_pp, zi_dup, zi_dup2, zi_gf, zi_pf, zi_ial, zi_ias, zi_lal, zi_las, zi_aal, zi_aln, zi_cp, zi_cmp, zi_if, zi_ic, zi_nul, zi_nnl, zi_sw, zi_ri, zi_rl, zi_ra, zi_rv, zi_iv, zi_ivr, zi_st1, zi_st2, zq_get0, zq_getS, zq_getN, zq_put0, zq_putS, zq_putN0, zq_putNS, zq_kl0, zq_klS, zq_Ln, zq_Li, zq_Lr, zq_Lf, zq_Lz, zq_Ll, zq_ft0, zq_fti, zq_ftr, zq_ftz, zq_ftf, zq_ftl, zq_pop0, zq_popS, zq_la0, zq_lai, zq_lar, zq_laz, zq_laf, zq_lal, zq_sh0, zq_sh1, zq_sh2, zq_sh3, zq_sh4, zq_f0, zq_f1, zq_f2, zq_f3, zq_u0, zq_u1, zq_u2, zq_ro0, zq_ro1, zq_ro2, zq_fv0, zq_fv2, zq_rfs, zq_rfn, zq_gD0, zq_gDS, zq_gDN, zq_lk0, zq_lkS, zq_tb0, zq_tbS, zq_o0, zq_o1, zq_o2, zq_o98, zq_o99, zq_o100, zq_o105, zq_o107, zq_o112, zq_o115, zq_o116, zq_c0, zq_c1, zq_v0, zq_v1, decide_eq_true_eq, List.toList_toArray, if_true, if_false, ite_self, and_true, true_and, and_false, false_and, true_or, or_true, or_false, false_or, not_true_eq_false, not_false_eq_true, Bool.false_eq_true, reduceCtorEq, ne_eq, ite_not, eq_self, Prod.mk.injEq, Nat.reduceEqDiff, Nat.reduceSub, Nat.reduceAdd, Nat.reduceLT, Nat.reduceLeDiff, zb_30_2, zc_30_2, zmt_0, zmt_1, zmt_2, zmt_3, zmt_16, zmt_17, zmt_30, zmt_31, zmt_32, zmt_45, zmt_46, zmt_54, zmt_62, zmt_70, zmt_78, zmt_86, zmt_87, zmt_88, zmt_89, zmt_90, zmt_91, zmt_92, zmt_93, zmt_94, zmt_95, zmt_96, zrc_0_0, zrc_0_1, zrc_0_2, zrc_0_3, zrc_0_4, zrc_0_5, zrc_0_6, zrc_2_3, zrc_16_3, zrc_30_0, zrc_31_3, zrc_45_0, zrc_45_1, zrc_45_2, zrc_45_3, zrc_45_4, zrc_86_1, zrc_86_2, zrc_89_0, zrc_89_1, zrc_89_4, zrc_89_5, zrc_89_6, zrc_89_7, zrc_89_8, zc_30_1, c1, e1, v1, f1, f2, hlu, c2', ez, vz, g, c3', c4', nI_1]
          all_goals exact ih2
      · rw [if_neg (fun q => c3 q.2.1)] at hs
        have c3' : ¬ zrI (s.1.getD z 99) = -9 := fun q => c3 (gi.mp q)
        have ih2 := ih' I [some (.int (nI z))] (by omega) (Or.inr ⟨_, rfl⟩) hpt (by rw [hs]; exact hm) (by rw [hs]; exact had) hK
        rw [hs] at ih2
        simp only [List.cons_append, List.nil_append] at ih2
        rw [zb_30_1]
        rcases hl with rfl | ⟨x, rfl⟩
        all_goals simp only [List.append_nil, List.cons_append, List.nil_append]
        all_goals simp only [zi_wp_c, zi_wK_if, zi_wK_go, zi_wK_no, zi_wK_b, zi_wK_r, zi_wK_c, zi_cc_i, zi_cc_n, zi_B_if, zi_ifF, zx_nop, zx_iconst, zx_bipush, zx_sipush, zx_lconst, zx_ldc2_w, zx_aconst_null, zx_iload, zx_iload_n, zx_lload, zx_lload_n, zx_aload, zx_aload_n, zx_istore, zx_istore_n, zx_lstore, zx_lstore_n, zx_astore, zx_astore_n, zx_iinc, zx_iadd, zx_isub, zx_imul, zx_iand, zx_ior, zx_ishl, zx_ishr, zx_idiv, zx_irem, zx_ladd, zx_ldiv, zx_lrem, zx_lcmp, zx_i2l, zx_i2b, zx_i2s, zx_pop, zx_dup, zx_dup2, zx_getfield, zx_putfield, zx_getstatic, zx_iaload, zx_iastore, zx_laload, zx_lastore, zx_aaload, zx_arraylength, zx_goto, zx_ifCond, zx_if_icmp, zx_ifnull, zx_ifnonnull, zx_tableswitch, zx_lookupswitch, zx_ireturn, zx_lreturn, zx_areturn, zx_return_, zx_invokestatic, zx_invokevirtual, zi_ldi, zi_ldl, zi_lda, zi_sti, zi_stl, zi_sta, zi_inc, zi_b2, zi_d2, zi_l2, zi_dl2, zi_lc, zi_u1, zi_pp, zi_dup, zi_dup2, zi_gf, zi_pf, zi_ial, zi_ias, zi_lal, zi_las, zi_aal, zi_aln, zi_cp, zi_cmp, zi_if, zi_ic, zi_nul, zi_nnl, zi_sw, zi_ri, zi_rl, zi_ra, zi_rv, zi_iv, zi_ivr, zi_st1, zi_st2, zq_get0, zq_getS, zq_getN, zq_put0, zq_putS, zq_putN0, zq_putNS, zq_kl0, zq_klS, zq_Ln, zq_Li, zq_Lr, zq_Lf, zq_Lz, zq_Ll, zq_ft0, zq_fti, zq_ftr, zq_ftz, zq_ftf, zq_ftl, zq_pop0, zq_popS, zq_la0, zq_lai, zq_lar, zq_laz, zq_laf, zq_lal, zq_sh0, zq_sh1, zq_sh2, zq_sh3, zq_sh4, zq_f0, zq_f1, zq_f2, zq_f3, zq_u0, zq_u1, zq_u2, zq_ro0, zq_ro1, zq_ro2, zq_fv0, zq_fv2, zq_rfs, zq_rfn, zq_gD0, zq_gDS, zq_gDN, zq_lk0, zq_lkS, zq_tb0, zq_tbS, zq_o0, zq_o1, zq_o2, zq_o98, zq_o99, zq_o100, zq_o105, zq_o107, zq_o112, zq_o115, zq_o116, zq_c0, zq_c1, zq_v0, zq_v1, decide_eq_true_eq, List.toList_toArray, if_true, if_false, ite_self, and_true, true_and, and_false, false_and, true_or, or_true, or_false, false_or, not_true_eq_false, not_false_eq_true, Bool.false_eq_true, reduceCtorEq, ne_eq, ite_not, eq_self, Prod.mk.injEq, Nat.reduceEqDiff, Nat.reduceSub, Nat.reduceAdd, Nat.reduceLT, Nat.reduceLeDiff, zb_30_2, zc_30_2, zmt_0, zmt_1, zmt_2, zmt_3, zmt_16, zmt_17, zmt_30, zmt_31, zmt_32, zmt_45, zmt_46, zmt_54, zmt_62, zmt_70, zmt_78, zmt_86, zmt_87, zmt_88, zmt_89, zmt_90, zmt_91, zmt_92, zmt_93, zmt_94, zmt_95, zmt_96, zrc_0_0, zrc_0_1, zrc_0_2, zrc_0_3, zrc_0_4, zrc_0_5, zrc_0_6, zrc_2_3, zrc_16_3, zrc_30_0, zrc_31_3, zrc_45_0, zrc_45_1, zrc_45_2, zrc_45_3, zrc_45_4, zrc_86_1, zrc_86_2, zrc_89_0, zrc_89_1, zrc_89_4, zrc_89_5, zrc_89_6, zrc_89_7, zrc_89_8, zc_30_1, c1, e1, v1, f1, f2, hlu, c2', ez, vz, g, c3', nI_1]
        all_goals exact ih2
    · rw [if_neg (fun q => c2 q.1)] at hs
      have c2' : nI z ≤ 0 := by (simp only [zt_eq, Int32.lt_iff_toInt_lt, Int32.le_iff_toInt_le, zt_add, zt_sub, zt_neg, zt_nI, zl_0, zl_1, zl_2, zl_3, zl_4, zl_5, zl_6, zl_7, zl_8, zl_9, zl_10, zl_16, zl_20, zl_30, zl_60, zl_1080, zl_m1, zl_m2, zl_m9]; omega)
      have ih2 := ih' I [some (.int (nI z))] (by omega) (Or.inr ⟨_, rfl⟩) hpt (by rw [hs]; exact hm) (by rw [hs]; exact had) hK
      rw [hs] at ih2
      simp only [List.cons_append, List.nil_append] at ih2
      rw [zb_30_1]
      rcases hl with rfl | ⟨x, rfl⟩
      all_goals simp only [List.append_nil, List.cons_append, List.nil_append]
      all_goals simp only [zi_wp_c, zi_wK_if, zi_wK_go, zi_wK_no, zi_wK_b, zi_wK_r, zi_wK_c, zi_cc_i, zi_cc_n, zi_B_if, zi_ifF, zx_nop, zx_iconst, zx_bipush, zx_sipush, zx_lconst, zx_ldc2_w, zx_aconst_null, zx_iload, zx_iload_n, zx_lload, zx_lload_n, zx_aload, zx_aload_n, zx_istore, zx_istore_n, zx_lstore, zx_lstore_n, zx_astore, zx_astore_n, zx_iinc, zx_iadd, zx_isub, zx_imul, zx_iand, zx_ior, zx_ishl, zx_ishr, zx_idiv, zx_irem, zx_ladd, zx_ldiv, zx_lrem, zx_lcmp, zx_i2l, zx_i2b, zx_i2s, zx_pop, zx_dup, zx_dup2, zx_getfield, zx_putfield, zx_getstatic, zx_iaload, zx_iastore, zx_laload, zx_lastore, zx_aaload, zx_arraylength, zx_goto, zx_ifCond, zx_if_icmp, zx_ifnull, zx_ifnonnull, zx_tableswitch, zx_lookupswitch, zx_ireturn, zx_lreturn, zx_areturn, zx_return_, zx_invokestatic, zx_invokevirtual, zi_ldi, zi_ldl, zi_lda, zi_sti, zi_stl, zi_sta, zi_inc, zi_b2, zi_d2, zi_l2, zi_dl2, zi_lc, zi_u1, zi_pp, zi_dup, zi_dup2, zi_gf, zi_pf, zi_ial, zi_ias, zi_lal, zi_las, zi_aal, zi_aln, zi_cp, zi_cmp, zi_if, zi_ic, zi_nul, zi_nnl, zi_sw, zi_ri, zi_rl, zi_ra, zi_rv, zi_iv, zi_ivr, zi_st1, zi_st2, zq_get0, zq_getS, zq_getN, zq_put0, zq_putS, zq_putN0, zq_putNS, zq_kl0, zq_klS, zq_Ln, zq_Li, zq_Lr, zq_Lf, zq_Lz, zq_Ll, zq_ft0, zq_fti, zq_ftr, zq_ftz, zq_ftf, zq_ftl, zq_pop0, zq_popS, zq_la0, zq_lai, zq_lar, zq_laz, zq_laf, zq_lal, zq_sh0, zq_sh1, zq_sh2, zq_sh3, zq_sh4, zq_f0, zq_f1, zq_f2, zq_f3, zq_u0, zq_u1, zq_u2, zq_ro0, zq_ro1, zq_ro2, zq_fv0, zq_fv2, zq_rfs, zq_rfn, zq_gD0, zq_gDS, zq_gDN, zq_lk0, zq_lkS, zq_tb0, zq_tbS, zq_o0, zq_o1, zq_o2, zq_o98, zq_o99, zq_o100, zq_o105, zq_o107, zq_o112, zq_o115, zq_o116, zq_c0, zq_c1, zq_v0, zq_v1, decide_eq_true_eq, List.toList_toArray, if_true, if_false, ite_self, and_true, true_and, and_false, false_and, true_or, or_true, or_false, false_or, not_true_eq_false, not_false_eq_true, Bool.false_eq_true, reduceCtorEq, ne_eq, ite_not, eq_self, Prod.mk.injEq, Nat.reduceEqDiff, Nat.reduceSub, Nat.reduceAdd, Nat.reduceLT, Nat.reduceLeDiff, zb_30_2, zc_30_2, zmt_0, zmt_1, zmt_2, zmt_3, zmt_16, zmt_17, zmt_30, zmt_31, zmt_32, zmt_45, zmt_46, zmt_54, zmt_62, zmt_70, zmt_78, zmt_86, zmt_87, zmt_88, zmt_89, zmt_90, zmt_91, zmt_92, zmt_93, zmt_94, zmt_95, zmt_96, zrc_0_0, zrc_0_1, zrc_0_2, zrc_0_3, zrc_0_4, zrc_0_5, zrc_0_6, zrc_2_3, zrc_16_3, zrc_30_0, zrc_31_3, zrc_45_0, zrc_45_1, zrc_45_2, zrc_45_3, zrc_45_4, zrc_86_1, zrc_86_2, zrc_89_0, zrc_89_1, zrc_89_4, zrc_89_5, zrc_89_6, zrc_89_7, zrc_89_8, zc_30_1, c1, e1, v1, f1, f2, hlu, c2', nI_1]
      all_goals exact ih2
theorem l_N_s3 {b1 : Int32} : ∀ d i (s : zBt) (I : Nat → Nat → Int32), i + d = 60 → zPt I → zBm I s →
    (∀ I', zAg 92 96 I I' → zBm I' (zB3 d i s) → K none (zm I' J)) →
    zi_B sc 0 0 29 3 [some (.ref 89), some (.int b1), some (.int (nI s.2.2.2.length)), some (.int (nI i))] [] (zm I J) K := by
  intro d
  induction d with
  | zero =>
    intro i s I hi hpt hm hK
    have : i = 60 := by omega
    subst this
    have h4 := hm.1.2.1
    have c1 : nI s.2.2.2.length ≤ nI 60 := by (simp only [zt_eq, Int32.lt_iff_toInt_lt, Int32.le_iff_toInt_le, zt_add, zt_sub, zt_neg, zt_nI, zl_0, zl_1, zl_2, zl_3, zl_4, zl_5, zl_6, zl_7, zl_8, zl_9, zl_10, zl_16, zl_20, zl_30, zl_60, zl_1080, zl_m1, zl_m2, zl_m9]; omega)
    rw [zb_29_3]
    simp only [zi_wp_c, zi_wK_if, zi_wK_go, zi_wK_no, zi_wK_b, zi_wK_r, zi_wK_c, zi_cc_i, zi_cc_n, zi_B_if, zi_ifF, zx_nop, zx_iconst, zx_bipush, zx_sipush, zx_lconst, zx_ldc2_w, zx_aconst_null, zx_iload, zx_iload_n, zx_lload, zx_lload_n, zx_aload, zx_aload_n, zx_istore, zx_istore_n, zx_lstore, zx_lstore_n, zx_astore, zx_astore_n, zx_iinc, zx_iadd, zx_isub, zx_imul, zx_iand, zx_ior, zx_ishl, zx_ishr, zx_idiv, zx_irem, zx_ladd, zx_ldiv, zx_lrem, zx_lcmp, zx_i2l, zx_i2b, zx_i2s, zx_pop, zx_dup, zx_dup2, zx_getfield, zx_putfield, zx_getstatic, zx_iaload, zx_iastore, zx_laload, zx_lastore, zx_aaload, zx_arraylength, zx_goto, zx_ifCond, zx_if_icmp, zx_ifnull, zx_ifnonnull, zx_tableswitch, zx_lookupswitch, zx_ireturn, zx_lreturn, zx_areturn, zx_return_, zx_invokestatic, zx_invokevirtual, zi_ldi, zi_ldl, zi_lda, zi_sti, zi_stl, zi_sta, zi_inc, zi_b2, zi_d2, zi_l2, zi_dl2, zi_lc, zi_u1, zi_pp, zi_dup, zi_dup2, zi_gf, zi_pf, zi_ial, zi_ias, zi_lal, zi_las, zi_aal, zi_aln, zi_cp, zi_cmp, zi_if, zi_ic, zi_nul, zi_nnl, zi_sw, zi_ri, zi_rl, zi_ra, zi_rv, zi_iv, zi_ivr, zi_st1, zi_st2, zq_get0, zq_getS, zq_getN, zq_put0, zq_putS, zq_putN0, zq_putNS, zq_kl0, zq_klS, zq_Ln, zq_Li, zq_Lr, zq_Lf, zq_Lz, zq_Ll, zq_ft0, zq_fti, zq_ftr, zq_ftz, zq_ftf, zq_ftl, zq_pop0, zq_popS, zq_la0, zq_lai, zq_lar, zq_laz, zq_laf, zq_lal, zq_sh0, zq_sh1, zq_sh2, zq_sh3, zq_sh4, zq_f0, zq_f1, zq_f2, zq_f3, zq_u0, zq_u1, zq_u2, zq_ro0, zq_ro1, zq_ro2, zq_fv0, zq_fv2, zq_rfs, zq_rfn, zq_gD0, zq_gDS, zq_gDN, zq_lk0, zq_lkS, zq_tb0, zq_tbS, zq_o0, zq_o1, zq_o2, zq_o98, zq_o99, zq_o100, zq_o105, zq_o107, zq_o112, zq_o115, zq_o116, zq_c0, zq_c1, zq_v0, zq_v1, decide_eq_true_eq, List.toList_toArray, if_true, if_false, ite_self, and_true, true_and, and_false, false_and, true_or, or_true, or_false, false_or, not_true_eq_false, not_false_eq_true, Bool.false_eq_true, reduceCtorEq, ne_eq, ite_not, eq_self, Prod.mk.injEq, Nat.reduceEqDiff, Nat.reduceSub, Nat.reduceAdd, Nat.reduceLT, Nat.reduceLeDiff, zb_29_4, zc_29_4, zc_29_3, c1]
    exact hK I zAg.rf hm
  | succ d ih =>
    intro i s I hi hpt hm hK
    have h4 := hm.1.2.1
    have hz : zB3 (d + 1) i s = if i < s.2.2.2.length then zB3 d (i + 1) (zB2 (s.2.2.2.getD i 0) s) else s := rfl
    by_cases c : i < s.2.2.2.length
    · rw [if_pos c] at hz
      have c1 : ¬ nI s.2.2.2.length ≤ nI i := by (simp only [zt_eq, Int32.lt_iff_toInt_lt, Int32.le_iff_toInt_le, zt_add, zt_sub, zt_neg, zt_nI, zl_0, zl_1, zl_2, zl_3, zl_4, zl_5, zl_6, zl_7, zl_8, zl_9, zl_10, zl_16, zl_20, zl_30, zl_60, zl_1080, zl_m1, zl_m2, zl_m9]; omega)
      have c2 : ¬ (60 : Int32) ≤ nI i := by (simp only [zt_eq, Int32.lt_iff_toInt_lt, Int32.le_iff_toInt_le, zt_add, zt_sub, zt_neg, zt_nI, zl_0, zl_1, zl_2, zl_3, zl_4, zl_5, zl_6, zl_7, zl_8, zl_9, zl_10, zl_16, zl_20, zl_30, zl_60, zl_1080, zl_m1, zl_m2, zl_m9]; omega)
      have ei : (nI i).toNatClampNeg = i := nI_clamp (by omega)
      have vi : zi_vin (nI i) 60 = true := zv_nI (by omega) (by omega)
      have g := hm.2.2.2 i c
      obtain ⟨q1, q2⟩ := hm.1.2.2.2 i c
      rw [zb_29_3]
      generalize s.2.2.2.getD i 0 = a at g q1 q2 hz
      have key := fun (K : Option Value → zi_M → Prop) => l_N_g1 (sc := sc) (J := J) (K := K) (b2 := nI s.2.2.2.length) (s0 := s) q1 30 0 I [] (by omega) (Or.inl rfl) hpt hm q2
      simp only [List.append_nil] at key
      rw [show nI 0 = 0 from rfl, show zBp a s 0 = s from rfl] at key
      simp only [zi_wp_c, zi_wK_if, zi_wK_go, zi_wK_no, zi_wK_b, zi_wK_r, zi_wK_c, zi_cc_i, zi_cc_n, zi_B_if, zi_ifF, zx_nop, zx_iconst, zx_bipush, zx_sipush, zx_lconst, zx_ldc2_w, zx_aconst_null, zx_iload, zx_iload_n, zx_lload, zx_lload_n, zx_aload, zx_aload_n, zx_istore, zx_istore_n, zx_lstore, zx_lstore_n, zx_astore, zx_astore_n, zx_iinc, zx_iadd, zx_isub, zx_imul, zx_iand, zx_ior, zx_ishl, zx_ishr, zx_idiv, zx_irem, zx_ladd, zx_ldiv, zx_lrem, zx_lcmp, zx_i2l, zx_i2b, zx_i2s, zx_pop, zx_dup, zx_dup2, zx_getfield, zx_putfield, zx_getstatic, zx_iaload, zx_iastore, zx_laload, zx_lastore, zx_aaload, zx_arraylength, zx_goto, zx_ifCond, zx_if_icmp, zx_ifnull, zx_ifnonnull, zx_tableswitch, zx_lookupswitch, zx_ireturn, zx_lreturn, zx_areturn, zx_return_, zx_invokestatic, zx_invokevirtual, zi_ldi, zi_ldl, zi_lda, zi_sti, zi_stl, zi_sta, zi_inc, zi_b2, zi_d2, zi_l2, zi_dl2, zi_lc, zi_u1, zi_pp, zi_dup, zi_dup2, zi_gf, zi_pf, zi_ial, zi_ias, zi_lal, zi_las, zi_aal, zi_aln, zi_cp, zi_cmp, zi_if, zi_ic, zi_nul, zi_nnl, zi_sw, zi_ri, zi_rl, zi_ra, zi_rv, zi_iv, zi_ivr, zi_st1, zi_st2, zq_get0, zq_getS, zq_getN, zq_put0, zq_putS, zq_putN0, zq_putNS, zq_kl0, zq_klS, zq_Ln, zq_Li, zq_Lr, zq_Lf, zq_Lz, zq_Ll, zq_ft0, zq_fti, zq_ftr, zq_ftz, zq_ftf, zq_ftl, zq_pop0, zq_popS, zq_la0, zq_lai, zq_lar, zq_laz, zq_laf, zq_lal, zq_sh0, zq_sh1, zq_sh2, zq_sh3, zq_sh4, zq_f0, zq_f1, zq_f2, zq_f3, zq_u0, zq_u1, zq_u2, zq_ro0, zq_ro1, zq_ro2, zq_fv0, zq_fv2, zq_rfs, zq_rfn, zq_gD0, zq_gDS, zq_gDN, zq_lk0, zq_lkS, zq_tb0, zq_tbS, zq_o0, zq_o1, zq_o2, zq_o98, zq_o99, zq_o100, zq_o105, zq_o107, zq_o112, zq_o115, zq_o116, zq_c0, zq_c1, zq_v0, zq_v1, decide_eq_true_eq, List.toList_toArray, if_true, if_false, ite_self, and_true, true_and, and_false, false_and, true_or, or_true, or_false, false_or, not_true_eq_false, not_false_eq_true, Bool.false_eq_true, reduceCtorEq, ne_eq, ite_not, eq_self, Prod.mk.injEq, Nat.reduceEqDiff, Nat.reduceSub, Nat.reduceAdd, Nat.reduceLT, Nat.reduceLeDiff, zb_30_0, zc_30_0, zmt_0, zmt_1, zmt_2, zmt_3, zmt_16, zmt_17, zmt_30, zmt_31, zmt_32, zmt_45, zmt_46, zmt_54, zmt_62, zmt_70, zmt_78, zmt_86, zmt_87, zmt_88, zmt_89, zmt_90, zmt_91, zmt_92, zmt_93, zmt_94, zmt_95, zmt_96, zrc_0_0, zrc_0_1, zrc_0_2, zrc_0_3, zrc_0_4, zrc_0_5, zrc_0_6, zrc_2_3, zrc_16_3, zrc_30_0, zrc_31_3, zrc_45_0, zrc_45_1, zrc_45_2, zrc_45_3, zrc_45_4, zrc_86_1, zrc_86_2, zrc_89_0, zrc_89_1, zrc_89_4, zrc_89_5, zrc_89_6, zrc_89_7, zrc_89_8, zc_29_3, c1, c2, ei, vi, g]
      refine key _ (fun I' a1 a2 => ?_)
      rw [← zB2_p] at a2 ⊢
      have ih2 := ih (i + 1) (zB2 a s) I' (by omega) (hpt.ag a1) a2 (fun I2 b1 b2 => hK I2 (a1.tr b1) (by rw [hz]; exact b2))
      simp only [zi_wp_c, zi_wK_if, zi_wK_go, zi_wK_no, zi_wK_b, zi_wK_r, zi_wK_c, zi_cc_i, zi_cc_n, zi_B_if, zi_ifF, zx_nop, zx_iconst, zx_bipush, zx_sipush, zx_lconst, zx_ldc2_w, zx_aconst_null, zx_iload, zx_iload_n, zx_lload, zx_lload_n, zx_aload, zx_aload_n, zx_istore, zx_istore_n, zx_lstore, zx_lstore_n, zx_astore, zx_astore_n, zx_iinc, zx_iadd, zx_isub, zx_imul, zx_iand, zx_ior, zx_ishl, zx_ishr, zx_idiv, zx_irem, zx_ladd, zx_ldiv, zx_lrem, zx_lcmp, zx_i2l, zx_i2b, zx_i2s, zx_pop, zx_dup, zx_dup2, zx_getfield, zx_putfield, zx_getstatic, zx_iaload, zx_iastore, zx_laload, zx_lastore, zx_aaload, zx_arraylength, zx_goto, zx_ifCond, zx_if_icmp, zx_ifnull, zx_ifnonnull, zx_tableswitch, zx_lookupswitch, zx_ireturn, zx_lreturn, zx_areturn, zx_return_, zx_invokestatic, zx_invokevirtual, zi_ldi, zi_ldl, zi_lda, zi_sti, zi_stl, zi_sta, zi_inc, zi_b2, zi_d2, zi_l2, zi_dl2, zi_lc, zi_u1, zi_pp, zi_dup, zi_dup2, zi_gf, zi_pf, zi_ial, zi_ias, zi_lal, zi_las, zi_aal, zi_aln, zi_cp, zi_cmp, zi_if, zi_ic, zi_nul, zi_nnl, zi_sw, zi_ri, zi_rl, zi_ra, zi_rv, zi_iv, zi_ivr, zi_st1, zi_st2, zq_get0, zq_getS, zq_getN, zq_put0, zq_putS, zq_putN0, zq_putNS, zq_kl0, zq_klS, zq_Ln, zq_Li, zq_Lr, zq_Lf, zq_Lz, zq_Ll, zq_ft0, zq_fti, zq_ftr, zq_ftz, zq_ftf, zq_ftl, zq_pop0, zq_popS, zq_la0, zq_lai, zq_lar, zq_laz, zq_laf, zq_lal, zq_sh0, zq_sh1, zq_sh2, zq_sh3, zq_sh4, zq_f0, zq_f1, zq_f2, zq_f3, zq_u0, zq_u1, zq_u2, zq_ro0, zq_ro1, zq_ro2, zq_fv0, zq_fv2, zq_rfs, zq_rfn, zq_gD0, zq_gDS, zq_gDN, zq_lk0, zq_lkS, zq_tb0, zq_tbS, zq_o0, zq_o1, zq_o2, zq_o98, zq_o99, zq_o100, zq_o105, zq_o107, zq_o112, zq_o115, zq_o116, zq_c0, zq_c1, zq_v0, zq_v1, decide_eq_true_eq, List.toList_toArray, if_true, if_false, ite_self, and_true, true_and, and_false, false_and, true_or, or_true, or_false, false_or, not_true_eq_false, not_false_eq_true, Bool.false_eq_true, reduceCtorEq, ne_eq, ite_not, eq_self, Prod.mk.injEq, Nat.reduceEqDiff, Nat.reduceSub, Nat.reduceAdd, Nat.reduceLT, Nat.reduceLeDiff, nI_1]
      exact ih2
    · rw [if_neg c] at hz
      have c1 : nI s.2.2.2.length ≤ nI i := by (simp only [zt_eq, Int32.lt_iff_toInt_lt, Int32.le_iff_toInt_le, zt_add, zt_sub, zt_neg, zt_nI, zl_0, zl_1, zl_2, zl_3, zl_4, zl_5, zl_6, zl_7, zl_8, zl_9, zl_10, zl_16, zl_20, zl_30, zl_60, zl_1080, zl_m1, zl_m2, zl_m9]; omega)
      rw [zb_29_3]
      simp only [zi_wp_c, zi_wK_if, zi_wK_go, zi_wK_no, zi_wK_b, zi_wK_r, zi_wK_c, zi_cc_i, zi_cc_n, zi_B_if, zi_ifF, zx_nop, zx_iconst, zx_bipush, zx_sipush, zx_lconst, zx_ldc2_w, zx_aconst_null, zx_iload, zx_iload_n, zx_lload, zx_lload_n, zx_aload, zx_aload_n, zx_istore, zx_istore_n, zx_lstore, zx_lstore_n, zx_astore, zx_astore_n, zx_iinc, zx_iadd, zx_isub, zx_imul, zx_iand, zx_ior, zx_ishl, zx_ishr, zx_idiv, zx_irem, zx_ladd, zx_ldiv, zx_lrem, zx_lcmp, zx_i2l, zx_i2b, zx_i2s, zx_pop, zx_dup, zx_dup2, zx_getfield, zx_putfield, zx_getstatic, zx_iaload, zx_iastore, zx_laload, zx_lastore, zx_aaload, zx_arraylength, zx_goto, zx_ifCond, zx_if_icmp, zx_ifnull, zx_ifnonnull, zx_tableswitch, zx_lookupswitch, zx_ireturn, zx_lreturn, zx_areturn, zx_return_, zx_invokestatic, zx_invokevirtual, zi_ldi, zi_ldl, zi_lda, zi_sti, zi_stl, zi_sta, zi_inc, zi_b2, zi_d2, zi_l2, zi_dl2, zi_lc, zi_u1, zi_pp, zi_dup, zi_dup2, zi_gf, zi_pf, zi_ial, zi_ias, zi_lal, zi_las, zi_aal, zi_aln, zi_cp, zi_cmp, zi_if, zi_ic, zi_nul, zi_nnl, zi_sw, zi_ri, zi_rl, zi_ra, zi_rv, zi_iv, zi_ivr, zi_st1, zi_st2, zq_get0, zq_getS, zq_getN, zq_put0, zq_putS, zq_putN0, zq_putNS, zq_kl0, zq_klS, zq_Ln, zq_Li, zq_Lr, zq_Lf, zq_Lz, zq_Ll, zq_ft0, zq_fti, zq_ftr, zq_ftz, zq_ftf, zq_ftl, zq_pop0, zq_popS, zq_la0, zq_lai, zq_lar, zq_laz, zq_laf, zq_lal, zq_sh0, zq_sh1, zq_sh2, zq_sh3, zq_sh4, zq_f0, zq_f1, zq_f2, zq_f3, zq_u0, zq_u1, zq_u2, zq_ro0, zq_ro1, zq_ro2, zq_fv0, zq_fv2, zq_rfs, zq_rfn, zq_gD0, zq_gDS, zq_gDN, zq_lk0, zq_lkS, zq_tb0, zq_tbS, zq_o0, zq_o1, zq_o2, zq_o98, zq_o99, zq_o100, zq_o105, zq_o107, zq_o112, zq_o115, zq_o116, zq_c0, zq_c1, zq_v0, zq_v1, decide_eq_true_eq, List.toList_toArray, if_true, if_false, ite_self, and_true, true_and, and_false, false_and, true_or, or_true, or_false, false_or, not_true_eq_false, not_false_eq_true, Bool.false_eq_true, reduceCtorEq, ne_eq, ite_not, eq_self, Prod.mk.injEq, Nat.reduceEqDiff, Nat.reduceSub, Nat.reduceAdd, Nat.reduceLT, Nat.reduceLeDiff, zb_29_4, zc_29_4, zc_29_3, c1]
      exact hK I zAg.rf (by rw [hz]; exact hm)
theorem zrep99 (v : Nat) : (List.replicate 61 99).getD v 99 = 99 := by
  rw [List.getD_eq_getElem?_getD, List.getElem?_replicate]
  split <;> rfl
/-- what the rows tell of the search from f -/
def zSt (I : Nat → Nat → Int32) (f : Nat) : Prop := ∀ v, v ≤ 60 → I 92 v = zrI ((zBf f).1.getD v 99) ∧ ((zBf f).1.getD v 99 ≠ 99 → (zBf f).1.getD v 99 ≠ 0 → I 93 v = nI ((zBf f).2.1.getD v 0) ∧ I 94 v = nI ((zBf f).2.2.1.getD v 0))
theorem s_N_search {I : Nat → Nat → Int32} {f : Nat} (hpt : zPt I) (h1 : zPn1 I) (hf : 1 ≤ f ∧ f ≤ 60) (hK : ∀ I', (∀ a, a < 89 ∨ 96 ≤ a → I' a = I a) → I' 90 = I 90 → I' 91 = I 91 → (∀ t, t ≠ 2 → I' 89 t = I 89 t) → I' 89 2 = nI f → zSt I' f → K none (zm I' J)) : zi_B sc 0 0 29 0 [some (.ref 89), some (.int (nI f))] [] (zm I J) K := by
  by_cases c : nI f = I 89 2
  · have ht : zSt I f := by
      rcases h1 with h1 | ⟨g, hg, h3, h4⟩
      · exfalso
        rw [h1] at c
        simp only [zt_eq, Int32.lt_iff_toInt_lt, Int32.le_iff_toInt_le, zt_add, zt_sub, zt_neg, zt_nI, zl_0, zl_1, zl_2, zl_3, zl_4, zl_5, zl_6, zl_7, zl_8, zl_9, zl_10, zl_16, zl_20, zl_30, zl_60, zl_1080, zl_m1, zl_m2, zl_m9] at c
        omega
      · rw [h3] at c
        have e := znI_inj (by omega) (by omega) c
        subst e
        exact h4
    have hK' := hK I (fun _ _ => rfl) rfl rfl (fun _ _ => rfl) c.symm ht
    rw [zb_29_0]
    simp only [zi_wp_c, zi_wK_if, zi_wK_go, zi_wK_no, zi_wK_b, zi_wK_r, zi_wK_c, zi_cc_i, zi_cc_n, zi_B_if, zi_ifF, zx_nop, zx_iconst, zx_bipush, zx_sipush, zx_lconst, zx_ldc2_w, zx_aconst_null, zx_iload, zx_iload_n, zx_lload, zx_lload_n, zx_aload, zx_aload_n, zx_istore, zx_istore_n, zx_lstore, zx_lstore_n, zx_astore, zx_astore_n, zx_iinc, zx_iadd, zx_isub, zx_imul, zx_iand, zx_ior, zx_ishl, zx_ishr, zx_idiv, zx_irem, zx_ladd, zx_ldiv, zx_lrem, zx_lcmp, zx_i2l, zx_i2b, zx_i2s, zx_pop, zx_dup, zx_dup2, zx_getfield, zx_putfield, zx_getstatic, zx_iaload, zx_iastore, zx_laload, zx_lastore, zx_aaload, zx_arraylength, zx_goto, zx_ifCond, zx_if_icmp, zx_ifnull, zx_ifnonnull, zx_tableswitch, zx_lookupswitch, zx_ireturn, zx_lreturn, zx_areturn, zx_return_, zx_invokestatic, zx_invokevirtual, zi_ldi, zi_ldl, zi_lda, zi_sti, zi_stl, zi_sta, zi_inc, zi_b2, zi_d2, zi_l2, zi_dl2, zi_lc, zi_u1, zi_pp, zi_dup, zi_dup2, zi_gf, zi_pf, zi_ial, zi_ias, zi_lal, zi_las, zi_aal, zi_aln, zi_cp, zi_cmp, zi_if, zi_ic, zi_nul, zi_nnl, zi_sw, zi_ri, zi_rl, zi_ra, zi_rv, zi_iv, zi_ivr, zi_st1, zi_st2, zq_get0, zq_getS, zq_getN, zq_put0, zq_putS, zq_putN0, zq_putNS, zq_kl0, zq_klS, zq_Ln, zq_Li, zq_Lr, zq_Lf, zq_Lz, zq_Ll, zq_ft0, zq_fti, zq_ftr, zq_ftz, zq_ftf, zq_ftl, zq_pop0, zq_popS, zq_la0, zq_lai, zq_lar, zq_laz, zq_laf, zq_lal, zq_sh0, zq_sh1, zq_sh2, zq_sh3, zq_sh4, zq_f0, zq_f1, zq_f2, zq_f3, zq_u0, zq_u1, zq_u2, zq_ro0, zq_ro1, zq_ro2, zq_fv0, zq_fv2, zq_rfs, zq_rfn, zq_gD0, zq_gDS, zq_gDN, zq_lk0, zq_lkS, zq_tb0, zq_tbS, zq_o0, zq_o1, zq_o2, zq_o98, zq_o99, zq_o100, zq_o105, zq_o107, zq_o112, zq_o115, zq_o116, zq_c0, zq_c1, zq_v0, zq_v1, decide_eq_true_eq, List.toList_toArray, if_true, if_false, ite_self, and_true, true_and, and_false, false_and, true_or, or_true, or_false, false_or, not_true_eq_false, not_false_eq_true, Bool.false_eq_true, reduceCtorEq, ne_eq, ite_not, eq_self, Prod.mk.injEq, Nat.reduceEqDiff, Nat.reduceSub, Nat.reduceAdd, Nat.reduceLT, Nat.reduceLeDiff, zb_29_1, zc_29_1, zmt_0, zmt_1, zmt_2, zmt_3, zmt_16, zmt_17, zmt_30, zmt_31, zmt_32, zmt_45, zmt_46, zmt_54, zmt_62, zmt_70, zmt_78, zmt_86, zmt_87, zmt_88, zmt_89, zmt_90, zmt_91, zmt_92, zmt_93, zmt_94, zmt_95, zmt_96, zrc_0_0, zrc_0_1, zrc_0_2, zrc_0_3, zrc_0_4, zrc_0_5, zrc_0_6, zrc_2_3, zrc_16_3, zrc_30_0, zrc_31_3, zrc_45_0, zrc_45_1, zrc_45_2, zrc_45_3, zrc_45_4, zrc_86_1, zrc_86_2, zrc_89_0, zrc_89_1, zrc_89_4, zrc_89_5, zrc_89_6, zrc_89_7, zrc_89_8, zc_29_0, c]
    exact hK'
  · have c1 : ¬ nI f < 1 := by (simp only [zt_eq, Int32.lt_iff_toInt_lt, Int32.le_iff_toInt_le, zt_add, zt_sub, zt_neg, zt_nI, zl_0, zl_1, zl_2, zl_3, zl_4, zl_5, zl_6, zl_7, zl_8, zl_9, zl_10, zl_16, zl_20, zl_30, zl_60, zl_1080, zl_m1, zl_m2, zl_m9]; omega)
    have c2 : nI f ≤ 60 := by (simp only [zt_eq, Int32.lt_iff_toInt_lt, Int32.le_iff_toInt_le, zt_add, zt_sub, zt_neg, zt_nI, zl_0, zl_1, zl_2, zl_3, zl_4, zl_5, zl_6, zl_7, zl_8, zl_9, zl_10, zl_16, zl_20, zl_30, zl_60, zl_1080, zl_m1, zl_m2, zl_m9]; omega)
    have v0 : zi_vin 0 60 = true := by decide
    have z0 : (0 : Int32).toNatClampNeg = 0 := rfl
    have ef : (nI f).toNatClampNeg = f := nI_clamp (by omega)
    have vf : zi_vin (nI f) 61 = true := zv_nI (by omega) (by omega)
    generalize hI1 : zi_up I 89 2 (nI f) = I1
    have l1 : ∀ a, a ≠ 89 → I1 a = I a := fun a h => by rw [← hI1]; exact zu_up_ne _ h
    rw [zb_29_0]
    simp only [zi_wp_c, zi_wK_if, zi_wK_go, zi_wK_no, zi_wK_b, zi_wK_r, zi_wK_c, zi_cc_i, zi_cc_n, zi_B_if, zi_ifF, zx_nop, zx_iconst, zx_bipush, zx_sipush, zx_lconst, zx_ldc2_w, zx_aconst_null, zx_iload, zx_iload_n, zx_lload, zx_lload_n, zx_aload, zx_aload_n, zx_istore, zx_istore_n, zx_lstore, zx_lstore_n, zx_astore, zx_astore_n, zx_iinc, zx_iadd, zx_isub, zx_imul, zx_iand, zx_ior, zx_ishl, zx_ishr, zx_idiv, zx_irem, zx_ladd, zx_ldiv, zx_lrem, zx_lcmp, zx_i2l, zx_i2b, zx_i2s, zx_pop, zx_dup, zx_dup2, zx_getfield, zx_putfield, zx_getstatic, zx_iaload, zx_iastore, zx_laload, zx_lastore, zx_aaload, zx_arraylength, zx_goto, zx_ifCond, zx_if_icmp, zx_ifnull, zx_ifnonnull, zx_tableswitch, zx_lookupswitch, zx_ireturn, zx_lreturn, zx_areturn, zx_return_, zx_invokestatic, zx_invokevirtual, zi_ldi, zi_ldl, zi_lda, zi_sti, zi_stl, zi_sta, zi_inc, zi_b2, zi_d2, zi_l2, zi_dl2, zi_lc, zi_u1, zi_pp, zi_dup, zi_dup2, zi_gf, zi_pf, zi_ial, zi_ias, zi_lal, zi_las, zi_aal, zi_aln, zi_cp, zi_cmp, zi_if, zi_ic, zi_nul, zi_nnl, zi_sw, zi_ri, zi_rl, zi_ra, zi_rv, zi_iv, zi_ivr, zi_st1, zi_st2, zq_get0, zq_getS, zq_getN, zq_put0, zq_putS, zq_putN0, zq_putNS, zq_kl0, zq_klS, zq_Ln, zq_Li, zq_Lr, zq_Lf, zq_Lz, zq_Ll, zq_ft0, zq_fti, zq_ftr, zq_ftz, zq_ftf, zq_ftl, zq_pop0, zq_popS, zq_la0, zq_lai, zq_lar, zq_laz, zq_laf, zq_lal, zq_sh0, zq_sh1, zq_sh2, zq_sh3, zq_sh4, zq_f0, zq_f1, zq_f2, zq_f3, zq_u0, zq_u1, zq_u2, zq_ro0, zq_ro1, zq_ro2, zq_fv0, zq_fv2, zq_rfs, zq_rfn, zq_gD0, zq_gDS, zq_gDN, zq_lk0, zq_lkS, zq_tb0, zq_tbS, zq_o0, zq_o1, zq_o2, zq_o98, zq_o99, zq_o100, zq_o105, zq_o107, zq_o112, zq_o115, zq_o116, zq_c0, zq_c1, zq_v0, zq_v1, decide_eq_true_eq, List.toList_toArray, if_true, if_false, ite_self, and_true, true_and, and_false, false_and, true_or, or_true, or_false, false_or, not_true_eq_false, not_false_eq_true, Bool.false_eq_true, reduceCtorEq, ne_eq, ite_not, eq_self, Prod.mk.injEq, Nat.reduceEqDiff, Nat.reduceSub, Nat.reduceAdd, Nat.reduceLT, Nat.reduceLeDiff, zb_29_2, zc_29_2, zmt_0, zmt_1, zmt_2, zmt_3, zmt_16, zmt_17, zmt_30, zmt_31, zmt_32, zmt_45, zmt_46, zmt_54, zmt_62, zmt_70, zmt_78, zmt_86, zmt_87, zmt_88, zmt_89, zmt_90, zmt_91, zmt_92, zmt_93, zmt_94, zmt_95, zmt_96, zrc_0_0, zrc_0_1, zrc_0_2, zrc_0_3, zrc_0_4, zrc_0_5, zrc_0_6, zrc_2_3, zrc_16_3, zrc_30_0, zrc_31_3, zrc_45_0, zrc_45_1, zrc_45_2, zrc_45_3, zrc_45_4, zrc_86_1, zrc_86_2, zrc_89_0, zrc_89_1, zrc_89_4, zrc_89_5, zrc_89_6, zrc_89_7, zrc_89_8, zc_29_0, c, s_x_isNoLoopCount, c1, c2, hI1]
    refine s_J_fill zmt_92 (by omega) (fun I2 a1 a2 => ?_)
    generalize hI3 : zi_up (zi_up I2 92 f 0) 95 0 (nI f) = I3
    have l3 : ∀ a, a ≠ 92 → a ≠ 95 → I3 a = I1 a := fun a h h' => by rw [← hI3, zu_up_ne _ h', zu_up_ne _ h, a1 a (by omega)]
    have g1 : ∀ v, ((List.replicate 61 99).set f 0).getD v 99 = if v = f then 0 else 99 := fun v => by rw [zset_99 _ _ _ _ (by rw [List.length_replicate]; omega), zrep99]
    have hm3 : zBm I3 ((List.replicate 61 99).set f 0, List.replicate 61 0, List.replicate 61 0, [f]) := by
      refine ⟨⟨⟨by rw [List.length_set, List.length_replicate], List.length_replicate, List.length_replicate⟩, by show 1 ≤ 60; omega, fun v hv => ?_, fun i hi => ?_⟩, fun v hv => ?_, fun v hv => ?_, fun i hi => ?_⟩
      · show ((List.replicate 61 99).set f 0).getD v 99 = 99 ∨ ((List.replicate 61 99).set f 0).getD v 99 < 1
        rw [g1]
        split
        · exact Or.inr (by omega)
        · exact Or.inl rfl
      · have hi1 : i < 1 := hi
        have : i = 0 := by omega
        subst this
        refine ⟨hf, ?_⟩
        show ((List.replicate 61 99).set f 0).getD f 99 ≠ 99
        rw [g1, if_pos rfl]
        omega
      · show I3 92 v = zrI (((List.replicate 61 99).set f 0).getD v 99)
        rw [g1, ← hI3]
        simp only [zu_up, Nat.reduceEqDiff, if_false, if_true]
        by_cases e : v = f
        · rw [if_pos e, if_pos e]; rfl
        · rw [if_neg e, if_neg e, a2 v (by omega)]; rfl
      · show ((List.replicate 61 99).set f 0).getD v 99 ≠ 99 → ((List.replicate 61 99).set f 0).getD v 99 ≠ 0 → _
        rw [g1]
        by_cases e : v = f
        · rw [if_pos e]; exact fun _ h => absurd rfl h
        · rw [if_neg e]; exact fun h => absurd rfl h
      · have hi1 : i < 1 := hi
        have : i = 0 := by omega
        subst this
        show I3 95 0 = nI f
        rw [← hI3, zu_up, if_pos rfl, if_pos rfl]
    have key := l_N_s3 (sc := sc) (J := J) (K := K) (b1 := nI f) 60 0 ((List.replicate 61 99).set f 0, List.replicate 61 0, List.replicate 61 0, [f]) I3 (by omega) (fun q hq => by rw [l3 90 (by omega) (by omega), l3 91 (by omega) (by omega), l1 90 (by omega), l1 91 (by omega)]; exact hpt q hq) hm3 (fun I' b1 b2 => by
      have k1 : ∀ a, a < 92 ∨ 96 ≤ a → I' a = I1 a := fun a h => by rw [b1 a h, l3 a (by omega) (by omega)]
      refine hK I' (fun a h => by rw [k1 a (by omega), l1 a (by omega)]) (by rw [k1 90 (by omega), l1 90 (by omega)]) (by rw [k1 91 (by omega), l1 91 (by omega)]) (fun t ht => by rw [k1 89 (by omega), ← hI1, zu_up, if_pos rfl, if_neg ht]) (by rw [k1 89 (by omega), ← hI1, zu_up, if_pos rfl, if_pos rfl]) (fun v hv => ⟨b2.2.1 v hv, b2.2.2.1 v hv⟩))
    rw [show nI 0 = 0 from rfl] at key
    simp only [zi_wp_c, zi_wK_if, zi_wK_go, zi_wK_no, zi_wK_b, zi_wK_r, zi_wK_c, zi_cc_i, zi_cc_n, zi_B_if, zi_ifF, zx_nop, zx_iconst, zx_bipush, zx_sipush, zx_lconst, zx_ldc2_w, zx_aconst_null, zx_iload, zx_iload_n, zx_lload, zx_lload_n, zx_aload, zx_aload_n, zx_istore, zx_istore_n, zx_lstore, zx_lstore_n, zx_astore, zx_astore_n, zx_iinc, zx_iadd, zx_isub, zx_imul, zx_iand, zx_ior, zx_ishl, zx_ishr, zx_idiv, zx_irem, zx_ladd, zx_ldiv, zx_lrem, zx_lcmp, zx_i2l, zx_i2b, zx_i2s, zx_pop, zx_dup, zx_dup2, zx_getfield, zx_putfield, zx_getstatic, zx_iaload, zx_iastore, zx_laload, zx_lastore, zx_aaload, zx_arraylength, zx_goto, zx_ifCond, zx_if_icmp, zx_ifnull, zx_ifnonnull, zx_tableswitch, zx_lookupswitch, zx_ireturn, zx_lreturn, zx_areturn, zx_return_, zx_invokestatic, zx_invokevirtual, zi_ldi, zi_ldl, zi_lda, zi_sti, zi_stl, zi_sta, zi_inc, zi_b2, zi_d2, zi_l2, zi_dl2, zi_lc, zi_u1, zi_pp, zi_dup, zi_dup2, zi_gf, zi_pf, zi_ial, zi_ias, zi_lal, zi_las, zi_aal, zi_aln, zi_cp, zi_cmp, zi_if, zi_ic, zi_nul, zi_nnl, zi_sw, zi_ri, zi_rl, zi_ra, zi_rv, zi_iv, zi_ivr, zi_st1, zi_st2, zq_get0, zq_getS, zq_getN, zq_put0, zq_putS, zq_putN0, zq_putNS, zq_kl0, zq_klS, zq_Ln, zq_Li, zq_Lr, zq_Lf, zq_Lz, zq_Ll, zq_ft0, zq_fti, zq_ftr, zq_ftz, zq_ftf, zq_ftl, zq_pop0, zq_popS, zq_la0, zq_lai, zq_lar, zq_laz, zq_laf, zq_lal, zq_sh0, zq_sh1, zq_sh2, zq_sh3, zq_sh4, zq_f0, zq_f1, zq_f2, zq_f3, zq_u0, zq_u1, zq_u2, zq_ro0, zq_ro1, zq_ro2, zq_fv0, zq_fv2, zq_rfs, zq_rfn, zq_gD0, zq_gDS, zq_gDN, zq_lk0, zq_lkS, zq_tb0, zq_tbS, zq_o0, zq_o1, zq_o2, zq_o98, zq_o99, zq_o100, zq_o105, zq_o107, zq_o112, zq_o115, zq_o116, zq_c0, zq_c1, zq_v0, zq_v1, decide_eq_true_eq, List.toList_toArray, if_true, if_false, ite_self, and_true, true_and, and_false, false_and, true_or, or_true, or_false, false_or, not_true_eq_false, not_false_eq_true, Bool.false_eq_true, reduceCtorEq, ne_eq, ite_not, eq_self, Prod.mk.injEq, Nat.reduceEqDiff, Nat.reduceSub, Nat.reduceAdd, Nat.reduceLT, Nat.reduceLeDiff, zmt_0, zmt_1, zmt_2, zmt_3, zmt_16, zmt_17, zmt_30, zmt_31, zmt_32, zmt_45, zmt_46, zmt_54, zmt_62, zmt_70, zmt_78, zmt_86, zmt_87, zmt_88, zmt_89, zmt_90, zmt_91, zmt_92, zmt_93, zmt_94, zmt_95, zmt_96, zrc_0_0, zrc_0_1, zrc_0_2, zrc_0_3, zrc_0_4, zrc_0_5, zrc_0_6, zrc_2_3, zrc_16_3, zrc_30_0, zrc_31_3, zrc_45_0, zrc_45_1, zrc_45_2, zrc_45_3, zrc_45_4, zrc_86_1, zrc_86_2, zrc_89_0, zrc_89_1, zrc_89_4, zrc_89_5, zrc_89_6, zrc_89_7, zrc_89_8, v0, z0, ef, vf, hI3]
    exact key
end ZSR
