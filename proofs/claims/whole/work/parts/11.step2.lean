/-! one instruction of the interpreter is one of the machine: all kinds -/
section ZU
variable {p : Program} {l : Launch} {e : Env} {R : Room} {s : State} {m : MethodId} {args : Array Value} {below : List Frame} {meth : Method} {c : Code} {H : Heap} {locs : List Loc} {cells slots : Nat} {Q : State → Prop}
variable {cc : ByteArray} {pc : Nat} {ls : Array Slot} {rest : List Value}
theorem zi_t_if (hx : p.tables.exec = Jvm.exec) (hb : c.code = cc) {d : ClassFile.Cond} {off : Int} {tgt : Nat} {x : Int32} (hdg : decode cc pc = .ok (.ifCond d off, 3)) (ht : (pc : Int) + off = (tgt : Int)) (kt : zi_cmp d x 0 = true → W p l e R s m args below meth c H locs cells slots Q (F0 m tgt ls rest)) (kf : ¬ zi_cmp d x 0 = true → W p l e R s m args below meth c H locs cells slots Q (F0 m (pc + 3) ls rest)) : W p l e R s m args below meth c H locs cells slots Q (F0 m pc ls (.int x :: rest)) := by
  cases d with
  | eq => exact lv_if_eq hx hb hdg ht (fun h => kt (by simpa [zi_cmp] using h)) (fun h => kf (by simpa [zi_cmp] using h))
  | lt => exact lv_if_lt hx hb hdg ht (fun h => kt (by simpa [zi_cmp] using h)) (fun h => kf (by simpa [zi_cmp] using h))
  | ge => exact lv_if_ge hx hb hdg ht (fun h => kt (by simpa [zi_cmp] using h)) (fun h => kf (by simpa [zi_cmp] using h))
  | gt => exact lv_if_gt hx hb hdg ht (fun h => kt (by simpa [zi_cmp] using h)) (fun h => kf (by simpa [zi_cmp] using h))
  | le => exact lv_if_le hx hb hdg ht (fun h => kt (by simpa [zi_cmp] using h)) (fun h => kf (by simpa [zi_cmp] using h))
  | ne => exact lv_if_ne hx hb hdg ht (fun h => kt (by simpa [zi_cmp] using h)) (fun h => kf (by simp [zi_cmp, h]))
theorem zi_t_ic (hx : p.tables.exec = Jvm.exec) (hb : c.code = cc) {d : ClassFile.Cond} {off : Int} {tgt : Nat} {x y : Int32} (hdg : decode cc pc = .ok (.if_icmp d off, 3)) (ht : (pc : Int) + off = (tgt : Int)) (kt : zi_cmp d x y = true → W p l e R s m args below meth c H locs cells slots Q (F0 m tgt ls rest)) (kf : ¬ zi_cmp d x y = true → W p l e R s m args below meth c H locs cells slots Q (F0 m (pc + 3) ls rest)) : W p l e R s m args below meth c H locs cells slots Q (F0 m pc ls (.int y :: .int x :: rest)) := by
  cases d with
  | eq => exact lv_icmp_eq hx hb hdg ht (fun h => kt (by simpa [zi_cmp] using h)) (fun h => kf (by simpa [zi_cmp] using h))
  | lt => exact lv_icmp_lt hx hb hdg ht (fun h => kt (by simpa [zi_cmp] using h)) (fun h => kf (by simpa [zi_cmp] using h))
  | ge => exact lv_icmp_ge hx hb hdg ht (fun h => kt (by simpa [zi_cmp] using h)) (fun h => kf (by simpa [zi_cmp] using h))
  | gt => exact lv_icmp_gt hx hb hdg ht (fun h => kt (by simpa [zi_cmp] using h)) (fun h => kf (by simpa [zi_cmp] using h))
  | le => exact lv_icmp_le hx hb hdg ht (fun h => kt (by simpa [zi_cmp] using h)) (fun h => kf (by simpa [zi_cmp] using h))
  | ne => exact lv_icmp_ne hx hb hdg ht (fun h => kt (by simpa [zi_cmp] using h)) (fun h => kf (by simp [zi_cmp, h]))
variable {T : Nat → zi_D} {sc : Nat × (Nat → Int32)} {a0 : Nat} {τ : Nat → ClassId} {dC : Nat → ClassId} {dI : Nat → Nat → Nat} {M : zi_M} {σ : Nat → Nat} {k : Nat}
set_option maxHeartbeats 4000000 in
theorem zi_step (C : zi_cx T sc a0 τ σ dC dI k p s m args meth c) {i : zi_I} {len : Nat} (hd : decode (zi_cd T k) pc = .ok (i.1, len)) (hk : zi_ck T k pc i len = true) {lv lv' : zi_L} {st st' : List Value} {M' : zi_M} (hn : zi_nx sc i lv st M = some (.inl (lv', st', M'))) (hW : zi_W a0 τ dC dI M H) (hS : va_S (zi_A a0) s.heap H locs) (hl : lv_has ls (zi_mx T k) (zi_lp a0 σ 0 lv)) (hc : cells + (zi_al i st).1 ≤ zi_mc T k) (hs : slots + (zi_al i st).2 ≤ zi_ms T k)
    (kk : ∀ (H1 : Heap) (locs1 : List Loc) (ls1 : Array Slot), zi_W a0 τ dC dI M' H1 → va_S (zi_A a0) s.heap H1 locs1 → lv_has ls1 (zi_mx T k) (zi_lp a0 σ 0 lv') → W p l e (zi_rm T k) s m args below meth c H1 locs1 (cells + (zi_al i st).1) (slots + (zi_al i st).2) Q (F0 m (pc + len) ls1 (st'.map (zi_con a0 σ)))) : W p l e (zi_rm T k) s m args below meth c H locs cells slots Q (F0 m pc ls (st.map (zi_con a0 σ))) := by
  obtain ⟨hx, hb, hml, hown, hts, hmn, hSS, ha0⟩ := id C
  have hK := hSS.1
  obtain ⟨op, ia, ib, ic, il⟩ := i
  dsimp only at hd
  cases op with
  | iconst n =>
    simp only [zi_ck, Bool.and_eq_true, decide_eq_true_eq] at hk
    simp only [zi_nx, Option.some.injEq, Sum.inl.injEq, Prod.mk.injEq] at hn
    obtain ⟨rfl, rfl, rfl⟩ := hn
    obtain ⟨rfl, h2⟩ := hk
    exact lv_iconst hx hb hd h2 (kk H locs ls hW hS hl)
  | bipush n =>
    simp only [zi_ck, Bool.and_eq_true, decide_eq_true_eq] at hk
    simp only [zi_nx, Option.some.injEq, Sum.inl.injEq, Prod.mk.injEq] at hn
    obtain ⟨rfl, rfl, rfl⟩ := hn
    obtain ⟨rfl, h2⟩ := hk
    exact lv_bipush hx hb hd h2 (kk H locs ls hW hS hl)
  | sipush n =>
    simp only [zi_ck, Bool.and_eq_true, decide_eq_true_eq] at hk
    simp only [zi_nx, Option.some.injEq, Sum.inl.injEq, Prod.mk.injEq] at hn
    obtain ⟨rfl, rfl, rfl⟩ := hn
    obtain ⟨rfl, h2⟩ := hk
    exact lv_sipush hx hb hd h2 (kk H locs ls hW hS hl)
  | lconst n =>
    simp only [zi_ck, Bool.and_eq_true, decide_eq_true_eq] at hk
    simp only [zi_nx, Option.some.injEq, Sum.inl.injEq, Prod.mk.injEq] at hn
    obtain ⟨rfl, rfl, rfl⟩ := hn
    subst hk
    exact lv_lconst hx hb hd rfl (kk H locs ls hW hS hl)
  | ldc2_w idx =>
    simp only [zi_ck, Bool.and_eq_true, decide_eq_true_eq] at hk
    simp only [zi_nx, Option.some.injEq, Sum.inl.injEq, Prod.mk.injEq] at hn
    obtain ⟨rfl, rfl, rfl⟩ := hn
    obtain ⟨rfl, h2⟩ := hk
    exact lv_ldc2 hx hb hown (hts _ (zi_w_in h2)) hd (kk H locs ls hW hS hl)
  | aconst_null =>
    simp only [zi_ck, Bool.and_eq_true, decide_eq_true_eq] at hk
    simp only [zi_nx, Option.some.injEq, Sum.inl.injEq, Prod.mk.injEq] at hn
    obtain ⟨rfl, rfl, rfl⟩ := hn
    subst hk
    exact lv_null hx hb hd (kk H locs ls hW hS hl)
  | iload n =>
    simp only [zi_ck, Bool.and_eq_true, decide_eq_true_eq] at hk
    simp only [zi_nx] at hn
    obtain ⟨x, hg, rfl, rfl, rfl⟩ := zi_ldi_inv hn
    subst hk
    exact lv_iload hx hb hd (zi_has_get hl hg) (kk H locs ls hW hS hl)
  | iload_n n =>
    simp only [zi_ck, Bool.and_eq_true, decide_eq_true_eq] at hk
    simp only [zi_nx] at hn
    obtain ⟨x, hg, rfl, rfl, rfl⟩ := zi_ldi_inv hn
    subst hk
    exact lv_iload_n hx hb hd rfl (zi_has_get hl hg) (kk H locs ls hW hS hl)
  | lload n =>
    simp only [zi_ck, Bool.and_eq_true, decide_eq_true_eq] at hk
    simp only [zi_nx] at hn
    obtain ⟨x, hg, rfl, rfl, rfl⟩ := zi_ldl_inv hn
    subst hk
    exact lv_lload hx hb hd (zi_has_get hl hg) (kk H locs ls hW hS hl)
  | lload_n n =>
    simp only [zi_ck, Bool.and_eq_true, decide_eq_true_eq] at hk
    simp only [zi_nx] at hn
    obtain ⟨x, hg, rfl, rfl, rfl⟩ := zi_ldl_inv hn
    subst hk
    exact lv_lload_n hx hb hd rfl (zi_has_get hl hg) (kk H locs ls hW hS hl)
  | aload n =>
    simp only [zi_ck, Bool.and_eq_true, decide_eq_true_eq] at hk
    simp only [zi_nx] at hn
    obtain ⟨v, hg, hv, rfl, rfl, rfl⟩ := zi_lda_inv hn
    subst hk
    exact zi_t_aload hx hb hv hd (zi_has_get hl hg) (kk H locs ls hW hS hl)
  | aload_n n =>
    simp only [zi_ck, Bool.and_eq_true, decide_eq_true_eq] at hk
    simp only [zi_nx] at hn
    obtain ⟨v, hg, hv, rfl, rfl, rfl⟩ := zi_lda_inv hn
    subst hk
    exact zi_t_aload_n hx hb hv hd (zi_has_get hl hg) (kk H locs ls hW hS hl)
  | istore n =>
    simp only [zi_ck, Bool.and_eq_true, decide_eq_true_eq] at hk
    simp only [zi_nx] at hn
    obtain ⟨x, r, rfl, rfl, rfl, rfl⟩ := zi_sti_inv hn
    obtain ⟨rfl, h2⟩ := hk
    exact lv_istore hx hb hd hl h2 rfl (fun ls' h' => kk H locs ls' hW hS (zi_has_st1 h'))
  | istore_n n =>
    simp only [zi_ck, Bool.and_eq_true, decide_eq_true_eq] at hk
    simp only [zi_nx] at hn
    obtain ⟨x, r, rfl, rfl, rfl, rfl⟩ := zi_sti_inv hn
    obtain ⟨rfl, h2⟩ := hk
    exact lv_istore_n hx hb hd rfl hl h2 rfl (fun ls' h' => kk H locs ls' hW hS (zi_has_st1 h'))
  | lstore n =>
    simp only [zi_ck, Bool.and_eq_true, decide_eq_true_eq] at hk
    simp only [zi_nx] at hn
    obtain ⟨x, r, rfl, rfl, rfl, rfl⟩ := zi_stl_inv hn
    obtain ⟨rfl, h2⟩ := hk
    exact lv_lstore hx hb hd hl h2 rfl (fun ls' h' => kk H locs ls' hW hS (zi_has_st2 h'))
  | lstore_n n =>
    simp only [zi_ck, Bool.and_eq_true, decide_eq_true_eq] at hk
    simp only [zi_nx] at hn
    obtain ⟨x, r, rfl, rfl, rfl, rfl⟩ := zi_stl_inv hn
    obtain ⟨rfl, h2⟩ := hk
    exact lv_lstore_n hx hb hd rfl hl h2 rfl (fun ls' h' => kk H locs ls' hW hS (zi_has_st2 h'))
  | astore n =>
    simp only [zi_ck, Bool.and_eq_true, decide_eq_true_eq] at hk
    simp only [zi_nx] at hn
    obtain ⟨v, r, rfl, hv, rfl, rfl, rfl⟩ := zi_sta_inv hn
    obtain ⟨rfl, h2⟩ := hk
    exact zi_t_astore hx hb hv hd hl h2 (fun ls' h' => kk H locs ls' hW hS h')
  | astore_n n =>
    simp only [zi_ck, Bool.and_eq_true, decide_eq_true_eq] at hk
    simp only [zi_nx] at hn
    obtain ⟨v, r, rfl, hv, rfl, rfl, rfl⟩ := zi_sta_inv hn
    obtain ⟨rfl, h2⟩ := hk
    exact zi_t_astore_n hx hb hv hd hl h2 (fun ls' h' => kk H locs ls' hW hS h')
  | iinc n d =>
    simp only [zi_ck, Bool.and_eq_true, decide_eq_true_eq] at hk
    simp only [zi_nx] at hn
    obtain ⟨x, hg, rfl, rfl, rfl⟩ := zi_inc_inv hn
    obtain ⟨rfl, h2, h3⟩ := hk
    exact zi_t_iinc hx hb hd hl hg h3 h2 (fun ls' h' => kk H locs ls' hW hS h')
  | iadd =>
    simp only [zi_ck, Bool.and_eq_true, decide_eq_true_eq] at hk
    simp only [zi_nx] at hn
    obtain ⟨x, y, r, rfl, rfl, rfl, rfl⟩ := zi_b2_inv hn
    subst hk
    exact lv_iadd hx hb hd (kk H locs ls hW hS hl)
  | isub =>
    simp only [zi_ck, Bool.and_eq_true, decide_eq_true_eq] at hk
    simp only [zi_nx] at hn
    obtain ⟨x, y, r, rfl, rfl, rfl, rfl⟩ := zi_b2_inv hn
    subst hk
    exact lv_isub hx hb hd (kk H locs ls hW hS hl)
  | imul =>
    simp only [zi_ck, Bool.and_eq_true, decide_eq_true_eq] at hk
    simp only [zi_nx] at hn
    obtain ⟨x, y, r, rfl, rfl, rfl, rfl⟩ := zi_b2_inv hn
    subst hk
    exact lv_imul hx hb hd (kk H locs ls hW hS hl)
  | iand =>
    simp only [zi_ck, Bool.and_eq_true, decide_eq_true_eq] at hk
    simp only [zi_nx] at hn
    obtain ⟨x, y, r, rfl, rfl, rfl, rfl⟩ := zi_b2_inv hn
    subst hk
    exact lv_iand hx hb hd (kk H locs ls hW hS hl)
  | ior =>
    simp only [zi_ck, Bool.and_eq_true, decide_eq_true_eq] at hk
    simp only [zi_nx] at hn
    obtain ⟨x, y, r, rfl, rfl, rfl, rfl⟩ := zi_b2_inv hn
    subst hk
    exact lv_ior hx hb hd (kk H locs ls hW hS hl)
  | ishl =>
    simp only [zi_ck, Bool.and_eq_true, decide_eq_true_eq] at hk
    simp only [zi_nx] at hn
    obtain ⟨x, y, r, rfl, rfl, rfl, rfl⟩ := zi_b2_inv hn
    subst hk
    exact lv_ishl hx hb hd (kk H locs ls hW hS hl)
  | ishr =>
    simp only [zi_ck, Bool.and_eq_true, decide_eq_true_eq] at hk
    simp only [zi_nx] at hn
    obtain ⟨x, y, r, rfl, rfl, rfl, rfl⟩ := zi_b2_inv hn
    subst hk
    exact lv_ishr hx hb hd (kk H locs ls hW hS hl)
  | idiv =>
    simp only [zi_ck, Bool.and_eq_true, decide_eq_true_eq] at hk
    simp only [zi_nx] at hn
    obtain ⟨x, y, r, rfl, rfl, rfl, rfl, hy⟩ := zi_d2_inv hn
    subst hk
    exact lv_idiv hx hb hd hy (kk H locs ls hW hS hl)
  | irem =>
    simp only [zi_ck, Bool.and_eq_true, decide_eq_true_eq] at hk
    simp only [zi_nx] at hn
    obtain ⟨x, y, r, rfl, rfl, rfl, rfl, hy⟩ := zi_d2_inv hn
    subst hk
    exact lv_irem hx hb hd hy (kk H locs ls hW hS hl)
  | ladd =>
    simp only [zi_ck, Bool.and_eq_true, decide_eq_true_eq] at hk
    simp only [zi_nx] at hn
    obtain ⟨x, y, r, rfl, rfl, rfl, rfl⟩ := zi_l2_inv hn
    subst hk
    exact lv_ladd hx hb hd (kk H locs ls hW hS hl)
  | ldiv =>
    simp only [zi_ck, Bool.and_eq_true, decide_eq_true_eq] at hk
    simp only [zi_nx] at hn
    obtain ⟨x, y, r, rfl, rfl, rfl, rfl, hy⟩ := zi_dl2_inv hn
    subst hk
    exact lv_ldiv hx hb hd hy (kk H locs ls hW hS hl)
  | lrem =>
    simp only [zi_ck, Bool.and_eq_true, decide_eq_true_eq] at hk
    simp only [zi_nx] at hn
    obtain ⟨x, y, r, rfl, rfl, rfl, rfl, hy⟩ := zi_dl2_inv hn
    subst hk
    exact lv_lrem hx hb hd hy (kk H locs ls hW hS hl)
  | lcmp =>
    simp only [zi_ck, Bool.and_eq_true, decide_eq_true_eq] at hk
    simp only [zi_nx] at hn
    obtain ⟨x, y, r, rfl, rfl, rfl, rfl⟩ := zi_lc_inv hn
    subst hk
    exact W.lcmp hx hb hd (kk H locs ls hW hS hl)
  | i2l =>
    simp only [zi_ck, Bool.and_eq_true, decide_eq_true_eq] at hk
    simp only [zi_nx] at hn
    obtain ⟨x, r, rfl, rfl, rfl, rfl⟩ := zi_u1_inv hn
    subst hk
    exact lv_i2l hx hb hd rfl (kk H locs ls hW hS hl)
  | i2b =>
    simp only [zi_ck, Bool.and_eq_true, decide_eq_true_eq] at hk
    simp only [zi_nx] at hn
    obtain ⟨x, r, rfl, rfl, rfl, rfl⟩ := zi_u1_inv hn
    subst hk
    exact lv_i2b hx hb hd rfl (kk H locs ls hW hS hl)
  | i2s =>
    simp only [zi_ck, Bool.and_eq_true, decide_eq_true_eq] at hk
    simp only [zi_nx] at hn
    obtain ⟨x, r, rfl, rfl, rfl, rfl⟩ := zi_u1_inv hn
    subst hk
    exact lv_i2s hx hb hd rfl (kk H locs ls hW hS hl)
  | pop =>
    simp only [zi_ck, Bool.and_eq_true, decide_eq_true_eq] at hk
    simp only [zi_nx] at hn
    obtain ⟨x, r, rfl, rfl, rfl, rfl⟩ := zi_pp_inv hn
    subst hk
    exact lv_pop hx hb hd rfl (kk H locs ls hW hS hl)
  | dup =>
    simp only [zi_ck, Bool.and_eq_true, decide_eq_true_eq] at hk
    simp only [zi_nx] at hn
    obtain ⟨v, r, rfl, hv, rfl, rfl, rfl⟩ := zi_dup_inv hn
    subst hk
    exact lv_dup hx hb hd (by rw [zi_con_cat]; exact hv) (kk H locs ls hW hS hl)
  | dup2 =>
    simp only [zi_ck, Bool.and_eq_true, decide_eq_true_eq] at hk
    simp only [zi_nx] at hn
    obtain ⟨x, y, r, rfl, rfl, rfl, rfl⟩ := zi_dup2_inv hn
    subst hk
    exact lv_dup2_11 hx hb hd rfl rfl (kk H locs ls hW hS hl)
  | getfield idx =>
    simp only [zi_ck, Bool.and_eq_true, decide_eq_true_eq] at hk
    simp only [zi_nx] at hn
    obtain ⟨id, r, rfl, hid, rfl, rfl, rfl⟩ := zi_gf_inv hn
    obtain ⟨rfl, h2, h3⟩ := hk
    exact zi_t_get (σ := σ) hx hb hts hown hK hW hid h2 h3 hd (kk H locs ls hW hS hl)
  | putfield idx =>
    simp only [zi_ck, Bool.and_eq_true, decide_eq_true_eq] at hk
    simp only [zi_nx] at hn
    obtain ⟨rfl, h2, ⟨h3, h3b⟩, h4, h5⟩ := hk
    rcases zi_pf_inv hn with ⟨id, x, r, rfl, hid, hx2, rfl, rfl, rfl⟩ | ⟨id, x, r, rfl, hid, htag, rfl, rfl, rfl⟩
    · exact zi_t_putI hx hb hts hown hK hW hS hid h2 h3 hx2 (fun h => ⟨hmn.trans (h5 h).1, (h5 h).2⟩) hd (fun H1 locs1 w1 s1 => kk H1 locs1 ls w1 s1 hl)
    · exact zi_t_putR hx hb hts hown hK hW hS hid h2 (h3.trans htag) (h4 htag) (fun h => ⟨hmn.trans (h5 h).1, (h5 h).2⟩) hd (fun H1 locs1 w1 s1 => kk H1 locs1 ls w1 s1 hl)
  | getstatic idx =>
    simp only [zi_ck, Bool.and_eq_true, decide_eq_true_eq] at hk
    simp only [zi_nx, Option.some.injEq, Sum.inl.injEq, Prod.mk.injEq] at hn
    obtain ⟨rfl, rfl, rfl⟩ := hn
    obtain ⟨rfl, h2, h3⟩ := hk
    have kk2 := kk H locs ls hW hS hl
    rcases (show ia = 0 ∨ ia = 1 by omega) with rfl | rfl
    · rcases (Bool.or_eq_true _ _).mp h3 with h | h
      · exact va_gets (n := "USES") hx hb hSS.2.1 hS hown (hts _ (zi_w_in h)) (fun _ h => h) hd kk2
      · exact va_getsN (n := "USES") hx hb hSS.2.1 hS hown (va_Nw.use rfl (hSS.2.2.2.2 _ (zi_wn_in h))) (fun _ h => h) hd kk2
    · rcases (Bool.or_eq_true _ _).mp h3 with h | h
      · exact va_gets (n := "MAKES") hx hb hSS.2.2.1 hS hown (hts _ (zi_w_in h)) (fun _ h => h) hd kk2
      · exact va_getsN (n := "MAKES") hx hb hSS.2.2.1 hS hown (va_Nw.use rfl (hSS.2.2.2.2 _ (zi_wn_in h))) (fun _ h => h) hd kk2
  | iaload =>
    simp only [zi_ck, Bool.and_eq_true, decide_eq_true_eq] at hk
    simp only [zi_nx] at hn
    subst hk
    rcases zi_ial_inv hn with ⟨id, j, r, rfl, ⟨h1, h2, h3⟩, rfl, rfl, rfl⟩ | ⟨q, j, r, rfl, h3, rfl, rfl, rfl⟩
    · exact zi_t_iald hx hb hK hW h1 h2 (zi_vin_in h3) hd (kk H locs ls hW hS hl)
    · exact va_ti hx hb (hSS.2.2.2.1 q.toNat) hS (zi_vin_in h3) rfl hd (kk H locs ls hW hS hl)
  | iastore =>
    simp only [zi_ck, Bool.and_eq_true, decide_eq_true_eq] at hk
    simp only [zi_nx] at hn
    subst hk
    obtain ⟨id, j, x, r, rfl, ⟨h1, h2, h3⟩, rfl, rfl, rfl⟩ := zi_ias_inv hn
    exact zi_t_iast hx hb hK hW hS h1 h2 (zi_vin_in h3) hd (fun H1 locs1 w1 s1 => kk H1 locs1 ls w1 s1 hl)
  | laload =>
    simp only [zi_ck, Bool.and_eq_true, decide_eq_true_eq] at hk
    simp only [zi_nx] at hn
    subst hk
    obtain ⟨id, j, r, rfl, ⟨h1, h2, h3⟩, rfl, rfl, rfl⟩ := zi_lal_inv hn
    exact zi_t_lald hx hb hK hW h1 h2 (zi_vin_in h3) hd (kk H locs ls hW hS hl)
  | lastore =>
    simp only [zi_ck, Bool.and_eq_true, decide_eq_true_eq] at hk
    simp only [zi_nx] at hn
    subst hk
    obtain ⟨id, j, x, r, rfl, ⟨h1, h2, h3⟩, rfl, rfl, rfl⟩ := zi_las_inv hn
    exact zi_t_last hx hb hK hW hS h1 h2 (zi_vin_in h3) hd (fun H1 locs1 w1 s1 => kk H1 locs1 ls w1 s1 hl)
  | aaload =>
    simp only [zi_ck, Bool.and_eq_true, decide_eq_true_eq] at hk
    simp only [zi_nx] at hn
    subst hk
    obtain ⟨id, j, r, rfl, ⟨h1, h2, h3⟩, rfl, rfl, rfl⟩ := zi_aal_inv hn
    refine zi_t_aald hx hb hK hW h1 h2 (zi_vin_in h3) hd ?_
    have kk2 := kk H locs ls hW hS hl
    rw [List.map_cons, zi_con_rf] at kk2
    exact kk2
  | aastore =>
    simp only [zi_ck, Bool.and_eq_true, decide_eq_true_eq] at hk
    simp only [zi_nx] at hn
    subst hk
    obtain ⟨id, j, x, r, rfl, ⟨h1, h2, h3⟩, rfl, rfl, rfl⟩ := zi_aas_inv hn
    rcases h2 with ⟨h2, h4⟩ | ⟨h2, h4⟩
    · exact zi_t_aast hx hb hK hW hS h1 h2 rfl h4 (T := TX5) rfl (zi_vin_in h3) hd (fun H1 locs1 w1 s1 => kk H1 locs1 ls w1 s1 hl)
    · exact zi_t_aast hx hb hK hW hS h1 h2 rfl h4 (T := TX4) rfl (zi_vin_in h3) hd (fun H1 locs1 w1 s1 => kk H1 locs1 ls w1 s1 hl)
  | arraylength =>
    simp only [zi_ck, Bool.and_eq_true, decide_eq_true_eq] at hk
    simp only [zi_nx] at hn
    subst hk
    rcases zi_aln_inv hn with ⟨id, r, rfl, ⟨h1, h2⟩, rfl, rfl, rfl⟩ | ⟨q, r, rfl, rfl, rfl, rfl⟩
    · exact zi_t_alen hx hb hK hW (by omega) h1.1 h2 hd (kk H locs ls hW hS hl)
    · obtain ⟨cell, g1, g2, g3, g4, g5, g6, g7⟩ := hSS.2.2.2.1 q.toNat
      exact W.alen (n := nI (zi_ro sc q.toNat).1) hx hb (by rw [hS.2.1 _ (Array.getElem?_eq_some_iff.mp g1).1 g7]; exact g1) g2 g5 rfl rfl hd (kk H locs ls hW hS hl)
  | new idx =>
    simp only [zi_ck, Bool.and_eq_true, decide_eq_true_eq] at hk
    simp only [zi_nx, zi_new, Option.some.injEq, Sum.inl.injEq, Prod.mk.injEq] at hn
    obtain ⟨rfl, rfl, rfl⟩ := hn
    obtain ⟨rfl, ⟨h2, h3⟩, h4, h5, h6, h7⟩ := hk
    dsimp only [zi_al] at hc hs kk
    subst h3
    exact zi_t_new hx hb hts hown hK hW hS h2 (zi_w_in h4) (zi_w_in h5) (zi_w_in h6) (fun j hj => by have := List.all_eq_true.mp h7 j (List.mem_range.mpr hj); simpa using this) hc hs hd (fun H1 w1 s1 => kk H1 locs ls w1 s1 hl)
  | newarray t =>
    simp only [zi_ck, Bool.and_eq_true, decide_eq_true_eq] at hk
    simp only [zi_nx] at hn
    obtain ⟨n, r, rfl, ⟨hn0, hn1⟩, rfl, rfl, rfl⟩ := zi_na_inv hn
    obtain ⟨rfl, h2, h3⟩ := hk
    dsimp only [zi_al] at hc hs kk
    have h4 := hts _ (zi_w_in h3)
    rcases h2 with ⟨rfl, rfl, rfl⟩ | ⟨rfl, rfl, rfl⟩
    · exact zi_t_newI hx hb h4 hK hW hS hn0 hn1 hc hs hd (fun H1 w1 s1 => kk H1 locs ls w1 s1 hl)
    · exact zi_t_newL hx hb h4 hK hW hS hn0 hn1 hc hs hd (fun H1 w1 s1 => kk H1 locs ls w1 s1 hl)
  | anewarray idx =>
    simp only [zi_ck, Bool.and_eq_true, decide_eq_true_eq] at hk
    simp only [zi_nx] at hn
    obtain ⟨n, r, rfl, ⟨hn0, hn1⟩, rfl, rfl, rfl⟩ := zi_na_inv hn
    obtain ⟨rfl, h2, h3, h4⟩ := hk
    dsimp only [zi_al] at hc hs kk
    have h5 := hts _ (zi_w_in h3)
    have h6 := hSS.2.2.2.2 _ (zi_wn_in h4)
    rcases h2 with rfl | rfl
    · exact zi_t_anew hx hb hown h5 (va_AO.use h6) hK rfl hW hS hn0 hn1 hc hs hd (fun H1 w1 s1 => kk H1 locs ls w1 s1 hl)
    · exact zi_t_anew hx hb hown h5 (va_AO.use h6) hK rfl hW hS hn0 hn1 hc hs hd (fun H1 w1 s1 => kk H1 locs ls w1 s1 hl)
  | multianewarray idx dd =>
    simp only [zi_ck, Bool.and_eq_true, decide_eq_true_eq] at hk
    simp only [zi_nx] at hn
    obtain ⟨kq, n, r, rfl, ⟨⟨hn0, hn1⟩, hk0, hk1⟩, rfl, rfl, rfl⟩ := zi_mna_inv hn
    obtain ⟨⟨rfl, rfl⟩, h2, h3, h4, h5⟩ := hk
    dsimp only [zi_al] at hc hs kk
    have h6 := hts _ (zi_w_in h3)
    have h7 := hSS.2.2.2.2 _ (zi_wn_in h4)
    have h8 := hts _ (zi_w_in h5)
    rcases h2 with ⟨rfl, rfl, h9⟩ | ⟨rfl, rfl, h9⟩
    · rw [h9] at kk
      exact zi_t_mna (fty := .int) hx hb hown h6 h7 h8 (Or.inl ⟨rfl, rfl, rfl, rfl⟩) hK hW hS hn0 hn1 hk0 hk1 hc hs hd (fun H1 w1 s1 => kk H1 locs ls w1 s1 hl)
    · rw [h9] at kk
      exact zi_t_mna (fty := .long) hx hb hown h6 h7 h8 (Or.inr ⟨rfl, rfl, rfl, rfl⟩) hK hW hS hn0 hn1 hk0 hk1 hc hs hd (fun H1 w1 s1 => kk H1 locs ls w1 s1 hl)
  | ifCond d off =>
    simp only [zi_ck, Bool.and_eq_true, decide_eq_true_eq] at hk
    simp only [zi_nx] at hn
    obtain ⟨x, r, rfl, hz⟩ := zi_if_inv hn
    obtain ⟨rfl, h2⟩ := hk
    by_cases hcm : zi_cmp d x 0 = true
    · rw [if_pos hcm] at hz; cases hz
    · rw [if_neg hcm] at hz
      cases hz
      exact zi_t_if hx hb hd h2 (fun h => absurd h hcm) (fun _ => kk H locs ls hW hS hl)
  | if_icmp d off =>
    simp only [zi_ck, Bool.and_eq_true, decide_eq_true_eq] at hk
    simp only [zi_nx] at hn
    obtain ⟨x, y, r, rfl, hz⟩ := zi_ic_inv hn
    obtain ⟨rfl, h2⟩ := hk
    by_cases hcm : zi_cmp d x y = true
    · rw [if_pos hcm] at hz; cases hz
    · rw [if_neg hcm] at hz
      cases hz
      exact zi_t_ic hx hb hd h2 (fun h => absurd h hcm) (fun _ => kk H locs ls hW hS hl)
  | ifnull off =>
    simp only [zi_ck, Bool.and_eq_true, decide_eq_true_eq] at hk
    simp only [zi_nx] at hn
    obtain ⟨rfl, h2⟩ := hk
    rcases zi_nul_inv hn with ⟨r, rfl, hz⟩ | ⟨x, r, rfl, hz⟩
    · cases hz
    · cases hz
      exact lv_ifnull hx hb hd (kk H locs ls hW hS hl)
  | ifnonnull off =>
    simp only [zi_ck, Bool.and_eq_true, decide_eq_true_eq] at hk
    simp only [zi_nx] at hn
    obtain ⟨rfl, h2⟩ := hk
    rcases zi_nnl_inv hn with ⟨r, rfl, hz⟩ | ⟨x, r, rfl, hz⟩
    · cases hz
      exact lv_ifnonnullN hx hb hd (kk H locs ls hW hS hl)
    · cases hz
  | invokestatic idx =>
    simp only [zi_nx] at hn
    by_cases h9 : ia = 9998
    · rw [if_pos h9] at hn
      simp only [zi_ck, if_pos h9, Bool.and_eq_true, decide_eq_true_eq] at hk
      obtain ⟨rfl, h2, h3, h4, h5, h6, h7⟩ := hk
      obtain ⟨n, dp, y, sp, x, r, rfl, ⟨⟨g1, g2, g3, g4⟩, ⟨g5, g6, g7⟩, ⟨g8, g9⟩, g10⟩, rfl, rfl, rfl⟩ := zi_cp_inv hn
      refine zi_t_cp hx hb (hml.trans hl.1.symm) hown (hts _ (zi_w_in h2)) (hts _ (zi_w_in h3)) (hts _ (zi_w_in h4)) (hts _ (zi_w_in h5)) hK hW hS g1 g2 g3 g4 g5 g6 g7 g8 g9 h6 ?_ hd (fun H1 locs1 w1 s1 => kk H1 locs1 ls w1 s1 hl)
      have := zi_len_sum a0 σ _ g10
      show _ ≤ zi_lc' T k
      omega
    · rw [if_neg h9] at hn
      obtain ⟨as, r, -, -, -, hz⟩ := zi_iv_inv hn
      cases hz
  | invokevirtual idx =>
    simp only [zi_nx] at hn
    obtain ⟨id, as, r, -, -, -, -, hz⟩ := zi_ivr_inv hn
    cases hz
  | invokespecial idx =>
    simp only [zi_nx] at hn
    by_cases h9 : ia = 9999
    · rw [if_pos h9] at hn
      simp only [zi_ck, if_pos h9, Bool.and_eq_true, decide_eq_true_eq] at hk
      obtain ⟨rfl, h2, h3, h4, h5, h6⟩ := hk
      obtain ⟨id, r, rfl, hr, rfl, rfl, rfl⟩ := zi_obj_inv hn
      refine W.objInit hx hb hown (hts _ (zi_w_in h2)) (hts _ (zi_w_in h3)) (hts _ (zi_w_in h4)) (g := F0 m pc ls (Value.ref (a0 + id) :: List.map (zi_con a0 σ) st')) rfl (hl.1.trans hml.symm) rfl hd h5 ?_ (kk H locs ls hW hS hl)
      have := zi_len_sum a0 σ _ hr
      show 2 * 0 + _ + 12 ≤ zi_lc' T k
      omega
    · rw [if_neg h9] at hn
      obtain ⟨id, as, r, -, -, -, -, hz⟩ := zi_ivr_inv hn
      cases hz
  | ireturn =>
    simp only [zi_nx] at hn
    obtain ⟨x, -, -, hz⟩ := zi_ri_inv hn
    cases hz
  | lreturn =>
    simp only [zi_nx] at hn
    obtain ⟨x, -, hz⟩ := zi_rl_inv hn
    cases hz
  | areturn =>
    simp only [zi_nx] at hn
    obtain ⟨x, -, -, hz⟩ := zi_ra_inv hn
    cases hz
  | return_ =>
    simp only [zi_nx] at hn
    obtain ⟨-, hz⟩ := zi_rv_inv hn
    cases hz
  | tableswitch d lo hi offs =>
    simp only [zi_nx] at hn
    obtain ⟨x, r, -, hz⟩ := zi_sw_inv hn
    cases hz
  | lookupswitch d ps =>
    simp only [zi_nx] at hn
    obtain ⟨x, r, -, hz⟩ := zi_sw_inv hn
    cases hz
  | _ => simp [zi_nx] at hn
end ZU
