/-! the constructors' run, by the kernel -/
def zsc0 : Nat × (Nat → Int32) := (0, fun _ => 0)
def zMe : zi_M := (0, fun _ => (9, 0, 0), fun _ _ => 0, fun _ _ => 0, fun _ _ => none)
/-- the instructions of the constructors -/
def zi_okI (i : zi_I) : Bool := match i.1 with
  | .nop => true
  | .iconst _ => true
  | .bipush _ => true
  | .sipush _ => true
  | .iload_n _ => true
  | .aload_n _ => true
  | .istore_n _ => true
  | .astore_n _ => true
  | .iinc _ _ => true
  | .iadd => true
  | .imul => true
  | .dup => true
  | .getfield _ => true
  | .getstatic _ => true
  | .iaload => true
  | .iastore => true
  | .aastore => true
  | .new _ => true
  | .newarray _ => true
  | .anewarray _ => true
  | .multianewarray _ _ => true
  | .goto _ => true
  | .if_icmp _ _ => true
  | .return_ => true
  | .putfield _ => decide (i.2.1 < i.2.2.2.2.getD 1 0)
  | .invokespecial _ => decide (i.2.1 = 9999 ∨ i.2.1 < 9)
  | _ => false
def zi_fine (M : zi_M) : Prop := (∀ j, M.1 ≤ j → M.2.1 j = (9, 0, 0)) ∧ ∀ j k, (M.2.1 j).2.2 ≤ k ∨ ((M.2.1 j).1 ≠ 0 ∧ (M.2.1 j).1 ≠ 3) → M.2.2.2.2 j k = none
theorem zi_fine.born {M : zi_M} (h : zi_fine M) (t : Nat × Nat × Nat) : zi_fine (zi_born t M) := by
  obtain ⟨h1, h2⟩ := h
  refine ⟨fun j hj => ?_, fun j k hk => ?_⟩
  · have hj' : M.1 + 1 ≤ j := hj
    show va_up M.2.1 M.1 t j = (9, 0, 0)
    rw [va_up_ne _ _ (by omega)]
    exact h1 j (by omega)
  · show zi_row M.2.2.2.2 M.1 (fun _ => none) j k = none
    by_cases e : j = M.1
    · rw [e, zi_row_eq]
    · rw [zi_row_ne _ _ e]
      have hk' : (va_up M.2.1 M.1 t j).2.2 ≤ k ∨ ((va_up M.2.1 M.1 t j).1 ≠ 0 ∧ (va_up M.2.1 M.1 t j).1 ≠ 3) := hk
      rw [va_up_ne _ _ e] at hk'
      exact h2 j k hk'
theorem zi_rows_at {t : Nat × Nat × Nat} : ∀ k (M : zi_M), (zi_rows t k M).1 = M.1 + k ∧ ∀ j, j < M.1 → (zi_rows t k M).2.1 j = M.2.1 j
  | 0, M => ⟨rfl, fun _ _ => rfl⟩
  | k + 1, M => by
    obtain ⟨h1, h2⟩ := zi_rows_at (t := t) k M
    refine ⟨?_, fun j hj => ?_⟩
    · show (zi_rows t k M).1 + 1 = _
      omega
    · show va_up (zi_rows t k M).2.1 (zi_rows t k M).1 t j = _
      rw [va_up_ne _ _ (by omega)]
      exact h2 j hj
theorem zi_fine.rows {t : Nat × Nat × Nat} : ∀ k {M : zi_M}, zi_fine M → zi_fine (zi_rows t k M)
  | 0, _, h => h
  | k + 1, _, h => (zi_fine.rows k h).born t
theorem zi_fine.r {M : zi_M} (h : zi_fine M) {id k x : Nat} (hk : ((M.2.1 id).1 = 0 ∨ (M.2.1 id).1 = 3) ∧ k < (M.2.1 id).2.2) : zi_fine (M.1, M.2.1, M.2.2.1, M.2.2.2.1, zi_up M.2.2.2.2 id k (some x)) := by
  refine ⟨h.1, fun j q hq => ?_⟩
  have hq' : (M.2.1 j).2.2 ≤ q ∨ ((M.2.1 j).1 ≠ 0 ∧ (M.2.1 j).1 ≠ 3) := hq
  show zi_up M.2.2.2.2 id k (some x) j q = none
  by_cases e : j = id
  · subst e
    rw [zi_up_eq, va_up_ne _ _ (by rcases hq' with q1 | q1 <;> omega)]
    exact h.2 j q hq'
  · rw [zi_up_ne _ _ _ e]
    exact h.2 j q hq'
theorem zi_ial_0 {sc : Nat × (Nat → Int32)} {lv : zi_L} {st : List Value} {M : zi_M} {z : zi_N} (h : zi_ial zsc0 lv st M = some z) : zi_ial sc lv st M = some z := by
  unfold zi_ial at h ⊢
  split at h
  · exact h
  · rename_i j q st'
    split at h
    · rename_i hc
      have : zi_ro zsc0 q.toNat = zi_ro sc q.toNat := by
        unfold zi_ro at hc ⊢
        split
        · rfl
        · rfl
        · exfalso
          rename_i h0 h1
          simp only [zsc0, zi_vin, Bool.and_eq_true, decide_eq_true_eq] at hc
          omega
      rw [← this, if_pos hc]
      exact h
    · cases h
  · cases h
theorem zi_nx_ok {sc : Nat × (Nat → Int32)} {i : zi_I} {lv : zi_L} {st : List Value} {M : zi_M} {z : zi_N} (hi : zi_okI i = true) (hf : zi_fine M) (h : zi_nx zsc0 i lv st M = some z) : zi_nx sc i lv st M = some z ∧ (∀ lv' st' M', z = .inl (lv', st', M') → zi_fine M') ∧ ∀ j as st', z = .inr (.inr (.inr (j, as, st'))) → j < 9 := by
  obtain ⟨op, ia, ib, ic, il⟩ := i
  cases op with
  | nop => simp only [zi_nx] at h ⊢; cases h; exact ⟨rfl, fun _ _ _ q => (by cases q), fun _ _ _ q => by cases q⟩
  | goto d => simp only [zi_nx] at h ⊢; cases h; exact ⟨rfl, fun _ _ _ q => (by cases q), fun _ _ _ q => by cases q⟩
  | iconst n => simp only [zi_nx] at h ⊢; cases h; exact ⟨rfl, fun _ _ _ q => (by cases q; exact hf), fun _ _ _ q => by cases q⟩
  | bipush n => simp only [zi_nx] at h ⊢; cases h; exact ⟨rfl, fun _ _ _ q => (by cases q; exact hf), fun _ _ _ q => by cases q⟩
  | sipush n => simp only [zi_nx] at h ⊢; cases h; exact ⟨rfl, fun _ _ _ q => (by cases q; exact hf), fun _ _ _ q => by cases q⟩
  | getstatic n => simp only [zi_nx] at h ⊢; cases h; exact ⟨rfl, fun _ _ _ q => (by cases q; exact hf), fun _ _ _ q => by cases q⟩
  | new n => simp only [zi_nx, zi_new] at h ⊢; cases h; exact ⟨rfl, fun _ _ _ q => (by cases q; exact hf.born _), fun _ _ _ q => by cases q⟩
  | iload_n n =>
    simp only [zi_nx] at h ⊢
    refine ⟨h, fun lv' st' M' q => ?_, fun j as st' q => ?_⟩
    · subst q; obtain ⟨x, -, -, -, rfl⟩ := zi_ldi_inv h; exact hf
    · subst q; unfold zi_ldi at h; split at h <;> cases h
  | aload_n n =>
    simp only [zi_nx] at h ⊢
    refine ⟨h, fun lv' st' M' q => ?_, fun j as st' q => ?_⟩
    · subst q; obtain ⟨x, -, -, -, -, rfl⟩ := zi_lda_inv h; exact hf
    · subst q; unfold zi_lda at h; split at h <;> cases h
  | istore_n n =>
    simp only [zi_nx] at h ⊢
    refine ⟨h, fun lv' st' M' q => ?_, fun j as st' q => ?_⟩
    · subst q; obtain ⟨x, r, -, -, -, rfl⟩ := zi_sti_inv h; exact hf
    · subst q; unfold zi_sti at h; split at h <;> cases h
  | astore_n n =>
    simp only [zi_nx] at h ⊢
    refine ⟨h, fun lv' st' M' q => ?_, fun j as st' q => ?_⟩
    · subst q; obtain ⟨x, r, -, -, -, -, rfl⟩ := zi_sta_inv h; exact hf
    · subst q; unfold zi_sta at h; split at h <;> cases h
  | iinc n d =>
    simp only [zi_nx] at h ⊢
    refine ⟨h, fun lv' st' M' q => ?_, fun j as st' q => ?_⟩
    · subst q; obtain ⟨x, -, -, -, rfl⟩ := zi_inc_inv h; exact hf
    · subst q; unfold zi_inc at h; split at h <;> cases h
  | iadd =>
    simp only [zi_nx] at h ⊢
    refine ⟨h, fun lv' st' M' q => ?_, fun j as st' q => ?_⟩
    · subst q; obtain ⟨x, y, r, -, -, -, rfl⟩ := zi_b2_inv h; exact hf
    · subst q; unfold zi_b2 at h; split at h <;> cases h
  | imul =>
    simp only [zi_nx] at h ⊢
    refine ⟨h, fun lv' st' M' q => ?_, fun j as st' q => ?_⟩
    · subst q; obtain ⟨x, y, r, -, -, -, rfl⟩ := zi_b2_inv h; exact hf
    · subst q; unfold zi_b2 at h; split at h <;> cases h
  | dup =>
    simp only [zi_nx] at h ⊢
    refine ⟨h, fun lv' st' M' q => ?_, fun j as st' q => ?_⟩
    · subst q; obtain ⟨x, r, -, -, -, -, rfl⟩ := zi_dup_inv h; exact hf
    · subst q; unfold zi_dup at h; split at h <;> cases h
  | getfield n =>
    simp only [zi_nx] at h ⊢
    refine ⟨h, fun lv' st' M' q => ?_, fun j as st' q => ?_⟩
    · subst q
      unfold zi_gf at h
      split at h
      · split at h
        · cases h; exact hf
        · cases h
      · cases h
    · subst q
      unfold zi_gf at h
      split at h
      · split at h <;> cases h
      · cases h
  | putfield n =>
    simp only [zi_okI, decide_eq_true_eq] at hi
    simp only [zi_nx] at h ⊢
    refine ⟨h, fun lv' st' M' q => ?_, fun j as st' q => ?_⟩
    · subst q
      unfold zi_pf at h
      split at h
      · split at h
        · cases h; exact hf
        · cases h
      · split at h
        · cases h; exact hf
        · cases h
      · split at h
        · rename_i hc
          cases h
          exact hf.r (by rw [hc]; exact ⟨Or.inl rfl, hi⟩)
        · cases h
      · cases h
    · subst q
      unfold zi_pf at h
      split at h
      · split at h <;> cases h
      · split at h <;> cases h
      · split at h <;> cases h
      · cases h
  | iaload =>
    simp only [zi_nx] at h ⊢
    refine ⟨zi_ial_0 h, fun lv' st' M' q => ?_, fun j as st' q => ?_⟩
    · subst q
      unfold zi_ial at h
      split at h
      · split at h
        · cases h; exact hf
        · cases h
      · split at h
        · cases h; exact hf
        · cases h
      · cases h
    · subst q
      unfold zi_ial at h
      split at h
      · split at h <;> cases h
      · split at h <;> cases h
      · cases h
  | iastore =>
    simp only [zi_nx] at h ⊢
    refine ⟨h, fun lv' st' M' q => ?_, fun j as st' q => ?_⟩
    · subst q
      unfold zi_ias at h
      split at h
      · split at h
        · cases h; exact hf
        · cases h
      · cases h
    · subst q
      unfold zi_ias at h
      split at h
      · split at h <;> cases h
      · cases h
  | aastore =>
    simp only [zi_nx] at h ⊢
    refine ⟨h, fun lv' st' M' q => ?_, fun j as st' q => ?_⟩
    · subst q
      unfold zi_aas at h
      split at h
      · split at h
        · rename_i hc
          cases h
          refine hf.r ⟨Or.inr hc.1, ?_⟩
          have := hc.2.2
          simp only [zi_vin, Bool.and_eq_true, decide_eq_true_eq] at this
          exact this.2
        · cases h
      · cases h
    · subst q
      unfold zi_aas at h
      split at h
      · split at h <;> cases h
      · cases h
  | newarray n =>
    simp only [zi_nx] at h ⊢
    refine ⟨h, fun lv' st' M' q => ?_, fun j as st' q => ?_⟩
    · subst q
      unfold zi_na at h
      split at h
      · split at h
        · cases h; exact hf.born _
        · cases h
      · cases h
    · subst q
      unfold zi_na at h
      split at h
      · split at h <;> cases h
      · cases h
  | anewarray n =>
    simp only [zi_nx] at h ⊢
    refine ⟨h, fun lv' st' M' q => ?_, fun j as st' q => ?_⟩
    · subst q
      unfold zi_na at h
      split at h
      · split at h
        · cases h; exact hf.born _
        · cases h
      · cases h
    · subst q
      unfold zi_na at h
      split at h
      · split at h <;> cases h
      · cases h
  | multianewarray n m =>
    simp only [zi_nx] at h ⊢
    refine ⟨h, fun lv' st' M' q => ?_, fun j as st' q => ?_⟩
    · subst q
      unfold zi_mna at h
      split at h
      · rename_i k2 n2 st2
        split at h
        · cases h
          have hb := hf.born (3, ia, n2.toNatClampNeg)
          have hr := zi_fine.rows (t := (il.getD 0 0, ib, k2.toNatClampNeg)) n2.toNatClampNeg hb
          obtain ⟨r1, r2⟩ := zi_rows_at (t := (il.getD 0 0, ib, k2.toNatClampNeg)) n2.toNatClampNeg (zi_born (3, ia, n2.toNatClampNeg) M)
          have r3 := r2 M.1 (by show M.1 < M.1 + 1; omega)
          have r4 : (zi_born (3, ia, n2.toNatClampNeg) M).2.1 M.1 = (3, ia, n2.toNatClampNeg) := va_up_self _ _ _
          rw [r4] at r3
          refine ⟨hr.1, fun j q hq => ?_⟩
          show zi_row _ M.1 (fun j => if j < n2.toNatClampNeg then some (M.1 + 1 + j) else none) j q = none
          by_cases e : j = M.1
          · subst e
            rw [zi_row_eq]
            have hq' : ((zi_rows (il.getD 0 0, ib, k2.toNatClampNeg) n2.toNatClampNeg (zi_born (3, ia, n2.toNatClampNeg) M)).2.1 M.1).2.2 ≤ q ∨ (((zi_rows (il.getD 0 0, ib, k2.toNatClampNeg) n2.toNatClampNeg (zi_born (3, ia, n2.toNatClampNeg) M)).2.1 M.1).1 ≠ 0 ∧ ((zi_rows (il.getD 0 0, ib, k2.toNatClampNeg) n2.toNatClampNeg (zi_born (3, ia, n2.toNatClampNeg) M)).2.1 M.1).1 ≠ 3) := hq
            rw [r3] at hq'
            rcases hq' with hq' | hq'
            · have : n2.toNatClampNeg ≤ q := hq'
              rw [if_neg (by omega)]
            · exact absurd rfl hq'.2
          · rw [zi_row_ne _ _ e]
            exact hr.2 j q hq
        · cases h
      · cases h
    · subst q
      unfold zi_mna at h
      split at h
      · split at h <;> cases h
      · cases h
  | if_icmp c d =>
    simp only [zi_nx] at h ⊢
    refine ⟨h, fun lv' st' M' q => ?_, fun j as st' q => ?_⟩
    · subst q
      obtain ⟨x, y, r, -, hz⟩ := zi_ic_inv h
      split at hz <;> cases hz
      exact hf
    · subst q
      obtain ⟨x, y, r, -, hz⟩ := zi_ic_inv h
      split at hz <;> cases hz
  | return_ =>
    simp only [zi_nx] at h ⊢
    obtain ⟨-, hz⟩ := zi_rv_inv h
    exact ⟨h, fun _ _ _ q => (by rw [hz] at q; cases q), fun _ _ _ q => by rw [hz] at q; cases q⟩
  | invokespecial n =>
    simp only [zi_okI, decide_eq_true_eq] at hi
    simp only [zi_nx] at h ⊢
    by_cases h9 : ia = 9999
    · rw [if_pos h9] at h ⊢
      refine ⟨h, fun lv' st' M' q => ?_, fun j as st' q => ?_⟩
      · subst q; obtain ⟨x, r, -, -, -, -, rfl⟩ := zi_obj_inv h; exact hf
      · subst q
        unfold zi_obj at h
        split at h
        · split at h <;> cases h
        · cases h
    · rw [if_neg h9] at h ⊢
      obtain ⟨id, as, r, -, -, -, -, hz⟩ := zi_ivr_inv h
      refine ⟨h, fun _ _ _ q => (by rw [hz] at q; cases q), fun j as' st' q => ?_⟩
      rw [hz] at q
      cases q
      exact hi.resolve_left h9
  | _ => simp [zi_okI] at hi
theorem zi_okB_l : (List.range 9).all (fun k => (zi_T k).2.2.1.all (fun is => is.all zi_okI)) = true := by decide +kernel
theorem zi_okB {k : Nat} (hk : k < 9) (b : Nat) : (zi_bk zi_T k b).all zi_okI = true := by
  have h := List.all_eq_true.mp zi_okB_l k (List.mem_range.mpr hk)
  unfold zi_bk
  rw [List.getD_eq_getElem?_getD]
  cases e : (zi_T k).2.2.1[b]? with
  | none => rfl
  | some is => exact List.all_eq_true.mp h is (List.mem_of_getElem? e)
theorem zi_ex_ok {sc : Nat × (Nat → Int32)} : ∀ (n k : Nat) (is : List zi_I) (lv : zi_L) (st : List Value) (M : zi_M) (cu su : Nat) (r : Option Value) (M' : zi_M), k < 9 → is.all zi_okI = true → zi_fine M → zi_ex zi_T zsc0 n k is lv st M cu su = some (r, M') → zi_ex zi_T sc n k is lv st M cu su = some (r, M') ∧ zi_fine M'
  | 0, k, is, lv, st, M, cu, su, r, M', hk, ha, hf, h => by simp [zi_ex] at h
  | n + 1, k, [], lv, st, M, cu, su, r, M', hk, ha, hf, h => by simp [zi_ex] at h
  | n + 1, k, i :: is, lv, st, M, cu, su, r, M', hk, ha, hf, h => by
    rw [List.all_cons, Bool.and_eq_true] at ha
    unfold zi_ex at h ⊢
    cases hn : zi_nx zsc0 i lv st M with
    | none => rw [hn] at h; cases h
    | some z =>
      rw [hn] at h
      obtain ⟨h1, h2, h3⟩ := zi_nx_ok (sc := sc) ha.1 hf hn
      rw [h1]
      rcases z with ⟨lv', st', M2⟩ | ⟨b, st'⟩ | r2 | ⟨j, as, st'⟩
      · dsimp only at h ⊢
        by_cases hg : cu + (zi_al i st).1 ≤ zi_mc zi_T k ∧ su + (zi_al i st).2 ≤ zi_ms zi_T k
        · rw [if_pos hg] at h ⊢
          exact zi_ex_ok n k is lv' st' M2 _ _ r M' hk ha.2 (h2 _ _ _ rfl) h
        · rw [if_neg hg] at h; cases h
      · exact zi_ex_ok n k _ lv st' M cu su r M' hk (zi_okB hk b) hf h
      · dsimp only at h ⊢
        cases h
        exact ⟨rfl, hf⟩
      · have hj := h3 _ _ _ rfl
        dsimp only at h ⊢
        by_cases hg : cu + zi_mc zi_T j ≤ zi_mc zi_T k ∧ su + zi_ms zi_T j ≤ zi_ms zi_T k
        · rw [if_pos hg] at h ⊢
          cases hc : zi_ex zi_T zsc0 n j (zi_bk zi_T j 0) (zi_la as) [] M 0 0 with
          | none => rw [hc] at h; cases h
          | some q2 =>
            obtain ⟨r3, M3⟩ := q2
            rw [hc] at h
            obtain ⟨g1, g2⟩ := zi_ex_ok n j _ _ _ M 0 0 r3 M3 hj (zi_okB hj 0) hf hc
            rw [g1]
            exact zi_ex_ok n k is lv _ M3 _ _ r M' hk ha.2 g2 h
        · rw [if_neg hg] at h; cases h
