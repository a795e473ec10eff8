/-! what each helper of the interpreter says when it goes on -/
theorem zi_b2_inv {f : Int32 → Int32 → Int32} {lv lv' : zi_L} {st st' : List Value} {M M' : zi_M} (h : zi_b2 f lv st M = some (.inl (lv', st', M'))) : ∃ x y r, st = .int y :: .int x :: r ∧ lv' = lv ∧ st' = .int (f x y) :: r ∧ M' = M := by
  unfold zi_b2 at h
  split at h
  all_goals first | (simp only [Option.some.injEq, Sum.inl.injEq, Prod.mk.injEq] at h; obtain ⟨rfl, rfl, rfl⟩ := h; exact ⟨_, _, _, rfl, rfl, rfl, rfl⟩) | (simp only [Option.some.injEq, Sum.inl.injEq, Prod.mk.injEq] at h; obtain ⟨rfl, rfl, rfl⟩ := h; exact ⟨_, _, rfl, rfl, rfl, rfl⟩) | cases h
theorem zi_l2_inv {f : Int64 → Int64 → Int64} {lv lv' : zi_L} {st st' : List Value} {M M' : zi_M} (h : zi_l2 f lv st M = some (.inl (lv', st', M'))) : ∃ x y r, st = .long y :: .long x :: r ∧ lv' = lv ∧ st' = .long (f x y) :: r ∧ M' = M := by
  unfold zi_l2 at h
  split at h
  all_goals first | (simp only [Option.some.injEq, Sum.inl.injEq, Prod.mk.injEq] at h; obtain ⟨rfl, rfl, rfl⟩ := h; exact ⟨_, _, _, rfl, rfl, rfl, rfl⟩) | (simp only [Option.some.injEq, Sum.inl.injEq, Prod.mk.injEq] at h; obtain ⟨rfl, rfl, rfl⟩ := h; exact ⟨_, _, rfl, rfl, rfl, rfl⟩) | cases h
theorem zi_lc_inv  {lv lv' : zi_L} {st st' : List Value} {M M' : zi_M} (h : zi_lc lv st M = some (.inl (lv', st', M'))) : ∃ x y r, st = .long y :: .long x :: r ∧ lv' = lv ∧ st' = .int (lg_cmp x y) :: r ∧ M' = M := by
  unfold zi_lc at h
  split at h
  all_goals first | (simp only [Option.some.injEq, Sum.inl.injEq, Prod.mk.injEq] at h; obtain ⟨rfl, rfl, rfl⟩ := h; exact ⟨_, _, _, rfl, rfl, rfl, rfl⟩) | (simp only [Option.some.injEq, Sum.inl.injEq, Prod.mk.injEq] at h; obtain ⟨rfl, rfl, rfl⟩ := h; exact ⟨_, _, rfl, rfl, rfl, rfl⟩) | cases h
theorem zi_u1_inv {f : Int32 → Value} {lv lv' : zi_L} {st st' : List Value} {M M' : zi_M} (h : zi_u1 f lv st M = some (.inl (lv', st', M'))) : ∃ x r, st = .int x :: r ∧ lv' = lv ∧ st' = f x :: r ∧ M' = M := by
  unfold zi_u1 at h
  split at h
  all_goals first | (simp only [Option.some.injEq, Sum.inl.injEq, Prod.mk.injEq] at h; obtain ⟨rfl, rfl, rfl⟩ := h; exact ⟨_, _, _, rfl, rfl, rfl, rfl⟩) | (simp only [Option.some.injEq, Sum.inl.injEq, Prod.mk.injEq] at h; obtain ⟨rfl, rfl, rfl⟩ := h; exact ⟨_, _, rfl, rfl, rfl, rfl⟩) | cases h
theorem zi_pp_inv  {lv lv' : zi_L} {st st' : List Value} {M M' : zi_M} (h : zi_pp lv st M = some (.inl (lv', st', M'))) : ∃ x r, st = .int x :: r ∧ lv' = lv ∧ st' = r ∧ M' = M := by
  unfold zi_pp at h
  split at h
  all_goals first | (simp only [Option.some.injEq, Sum.inl.injEq, Prod.mk.injEq] at h; obtain ⟨rfl, rfl, rfl⟩ := h; exact ⟨_, _, _, rfl, rfl, rfl, rfl⟩) | (simp only [Option.some.injEq, Sum.inl.injEq, Prod.mk.injEq] at h; obtain ⟨rfl, rfl, rfl⟩ := h; exact ⟨_, _, rfl, rfl, rfl, rfl⟩) | cases h
theorem zi_dup2_inv  {lv lv' : zi_L} {st st' : List Value} {M M' : zi_M} (h : zi_dup2 lv st M = some (.inl (lv', st', M'))) : ∃ x y r, st = .int x :: .ref y :: r ∧ lv' = lv ∧ st' = .int x :: .ref y :: .int x :: .ref y :: r ∧ M' = M := by
  unfold zi_dup2 at h
  split at h
  all_goals first | (simp only [Option.some.injEq, Sum.inl.injEq, Prod.mk.injEq] at h; obtain ⟨rfl, rfl, rfl⟩ := h; exact ⟨_, _, _, rfl, rfl, rfl, rfl⟩) | (simp only [Option.some.injEq, Sum.inl.injEq, Prod.mk.injEq] at h; obtain ⟨rfl, rfl, rfl⟩ := h; exact ⟨_, _, rfl, rfl, rfl, rfl⟩) | cases h
theorem zi_sti_inv {n : Nat} {lv lv' : zi_L} {st st' : List Value} {M M' : zi_M} (h : zi_sti lv n st M = some (.inl (lv', st', M'))) : ∃ x r, st = .int x :: r ∧ lv' = zi_st1 lv n (.int x) ∧ st' = r ∧ M' = M := by
  unfold zi_sti at h
  split at h
  all_goals first | (simp only [Option.some.injEq, Sum.inl.injEq, Prod.mk.injEq] at h; obtain ⟨rfl, rfl, rfl⟩ := h; exact ⟨_, _, _, rfl, rfl, rfl, rfl⟩) | (simp only [Option.some.injEq, Sum.inl.injEq, Prod.mk.injEq] at h; obtain ⟨rfl, rfl, rfl⟩ := h; exact ⟨_, _, rfl, rfl, rfl, rfl⟩) | cases h
theorem zi_stl_inv {n : Nat} {lv lv' : zi_L} {st st' : List Value} {M M' : zi_M} (h : zi_stl lv n st M = some (.inl (lv', st', M'))) : ∃ x r, st = .long x :: r ∧ lv' = zi_st2 lv n (.long x) ∧ st' = r ∧ M' = M := by
  unfold zi_stl at h
  split at h
  all_goals first | (simp only [Option.some.injEq, Sum.inl.injEq, Prod.mk.injEq] at h; obtain ⟨rfl, rfl, rfl⟩ := h; exact ⟨_, _, _, rfl, rfl, rfl, rfl⟩) | (simp only [Option.some.injEq, Sum.inl.injEq, Prod.mk.injEq] at h; obtain ⟨rfl, rfl, rfl⟩ := h; exact ⟨_, _, rfl, rfl, rfl, rfl⟩) | cases h
theorem zi_d2_inv {f : Int32 → Int32 → Int32} {lv lv' : zi_L} {st st' : List Value} {M M' : zi_M} (h : zi_d2 f lv st M = some (.inl (lv', st', M'))) : ∃ x y r, st = .int y :: .int x :: r ∧ lv' = lv ∧ st' = .int (f x y) :: r ∧ M' = M ∧ ¬ y = 0 := by
  unfold zi_d2 at h
  split at h
  · split at h
    · rename_i hy
      simp only [Option.some.injEq, Sum.inl.injEq, Prod.mk.injEq] at h; obtain ⟨rfl, rfl, rfl⟩ := h; exact ⟨_, _, _, rfl, rfl, rfl, rfl, hy⟩
    · cases h
  · cases h
theorem zi_dl2_inv {f : Int64 → Int64 → Int64} {lv lv' : zi_L} {st st' : List Value} {M M' : zi_M} (h : zi_dl2 f lv st M = some (.inl (lv', st', M'))) : ∃ x y r, st = .long y :: .long x :: r ∧ lv' = lv ∧ st' = .long (f x y) :: r ∧ M' = M ∧ ¬ y = 0 := by
  unfold zi_dl2 at h
  split at h
  · split at h
    · rename_i hy
      simp only [Option.some.injEq, Sum.inl.injEq, Prod.mk.injEq] at h; obtain ⟨rfl, rfl, rfl⟩ := h; exact ⟨_, _, _, rfl, rfl, rfl, rfl, hy⟩
    · cases h
  · cases h
theorem zi_ldi_inv {n : Nat} {lv lv' : zi_L} {st st' : List Value} {M M' : zi_M} (h : zi_ldi lv n st M = some (.inl (lv', st', M'))) : ∃ x, zi_get lv n = some (.int x) ∧ lv' = lv ∧ st' = .int x :: st ∧ M' = M := by
  unfold zi_ldi at h
  split at h
  · rename_i hg
    simp only [Option.some.injEq, Sum.inl.injEq, Prod.mk.injEq] at h; obtain ⟨rfl, rfl, rfl⟩ := h; exact ⟨_, hg, rfl, rfl, rfl⟩
  · cases h
theorem zi_ldl_inv {n : Nat} {lv lv' : zi_L} {st st' : List Value} {M M' : zi_M} (h : zi_ldl lv n st M = some (.inl (lv', st', M'))) : ∃ x, zi_get lv n = some (.long x) ∧ lv' = lv ∧ st' = .long x :: st ∧ M' = M := by
  unfold zi_ldl at h
  split at h
  · rename_i hg
    simp only [Option.some.injEq, Sum.inl.injEq, Prod.mk.injEq] at h; obtain ⟨rfl, rfl, rfl⟩ := h; exact ⟨_, hg, rfl, rfl, rfl⟩
  · cases h
theorem zi_lda_inv {n : Nat} {lv lv' : zi_L} {st st' : List Value} {M M' : zi_M} (h : zi_lda lv n st M = some (.inl (lv', st', M'))) : ∃ v, zi_get lv n = some v ∧ ((∃ x, v = .ref x) ∨ (∃ x, v = .float x) ∨ v = .null) ∧ lv' = lv ∧ st' = v :: st ∧ M' = M := by
  unfold zi_lda at h
  split at h
  · rename_i x hg
    simp only [Option.some.injEq, Sum.inl.injEq, Prod.mk.injEq] at h; obtain ⟨rfl, rfl, rfl⟩ := h; exact ⟨_, hg, Or.inl ⟨_, rfl⟩, rfl, rfl, rfl⟩
  · rename_i x hg
    simp only [Option.some.injEq, Sum.inl.injEq, Prod.mk.injEq] at h; obtain ⟨rfl, rfl, rfl⟩ := h; exact ⟨_, hg, Or.inr (Or.inl ⟨_, rfl⟩), rfl, rfl, rfl⟩
  · rename_i hg
    simp only [Option.some.injEq, Sum.inl.injEq, Prod.mk.injEq] at h; obtain ⟨rfl, rfl, rfl⟩ := h; exact ⟨_, hg, Or.inr (Or.inr rfl), rfl, rfl, rfl⟩
  · cases h
theorem zi_sta_inv {n : Nat} {lv lv' : zi_L} {st st' : List Value} {M M' : zi_M} (h : zi_sta lv n st M = some (.inl (lv', st', M'))) : ∃ v r, st = v :: r ∧ ((∃ x, v = .ref x) ∨ (∃ x, v = .float x) ∨ v = .null) ∧ lv' = zi_st1 lv n v ∧ st' = r ∧ M' = M := by
  unfold zi_sta at h
  split at h
  · simp only [Option.some.injEq, Sum.inl.injEq, Prod.mk.injEq] at h; obtain ⟨rfl, rfl, rfl⟩ := h; exact ⟨_, _, rfl, Or.inl ⟨_, rfl⟩, rfl, rfl, rfl⟩
  · simp only [Option.some.injEq, Sum.inl.injEq, Prod.mk.injEq] at h; obtain ⟨rfl, rfl, rfl⟩ := h; exact ⟨_, _, rfl, Or.inr (Or.inl ⟨_, rfl⟩), rfl, rfl, rfl⟩
  · simp only [Option.some.injEq, Sum.inl.injEq, Prod.mk.injEq] at h; obtain ⟨rfl, rfl, rfl⟩ := h; exact ⟨_, _, rfl, Or.inr (Or.inr rfl), rfl, rfl, rfl⟩
  · cases h
theorem zi_inc_inv {n : Nat} {v : Int32} {lv lv' : zi_L} {st st' : List Value} {M M' : zi_M} (h : zi_inc lv n v st M = some (.inl (lv', st', M'))) : ∃ x, zi_get lv n = some (.int x) ∧ lv' = zi_st1 lv n (.int (x + v)) ∧ st' = st ∧ M' = M := by
  unfold zi_inc at h
  split at h
  · rename_i hg
    simp only [Option.some.injEq, Sum.inl.injEq, Prod.mk.injEq] at h; obtain ⟨rfl, rfl, rfl⟩ := h; exact ⟨_, hg, rfl, rfl, rfl⟩
  · cases h
theorem zi_dup_inv {lv lv' : zi_L} {st st' : List Value} {M M' : zi_M} (h : zi_dup lv st M = some (.inl (lv', st', M'))) : ∃ v r, st = v :: r ∧ v.category = 1 ∧ lv' = lv ∧ st' = v :: v :: r ∧ M' = M := by
  unfold zi_dup at h
  split at h
  · simp only [Option.some.injEq, Sum.inl.injEq, Prod.mk.injEq] at h; obtain ⟨rfl, rfl, rfl⟩ := h; exact ⟨_, _, rfl, rfl, rfl, rfl, rfl⟩
  · simp only [Option.some.injEq, Sum.inl.injEq, Prod.mk.injEq] at h; obtain ⟨rfl, rfl, rfl⟩ := h; exact ⟨_, _, rfl, rfl, rfl, rfl, rfl⟩
  · cases h
theorem zi_gf_inv {slot tag : Nat} {l : List Nat} {lv lv' : zi_L} {st st' : List Value} {M M' : zi_M} (h : zi_gf slot tag l lv st M = some (.inl (lv', st', M'))) : ∃ id r, st = .ref id :: r ∧ M.2.1 id = (0, l.getD 0 0, l.getD 1 0) ∧ lv' = lv ∧ st' = zi_fv tag (M.2.2.1 id slot) (M.2.2.2.2 id slot) :: r ∧ M' = M := by
  unfold zi_gf at h
  split at h
  · split at h
    · rename_i hc
      simp only [Option.some.injEq, Sum.inl.injEq, Prod.mk.injEq] at h; obtain ⟨rfl, rfl, rfl⟩ := h; exact ⟨_, _, rfl, hc, rfl, rfl, rfl⟩
    · cases h
  · cases h
theorem zi_pf_inv {slot tag : Nat} {l : List Nat} {lv lv' : zi_L} {st st' : List Value} {M M' : zi_M} (h : zi_pf slot tag l lv st M = some (.inl (lv', st', M'))) :
    (∃ id x r, st = .int x :: .ref id :: r ∧ M.2.1 id = (0, l.getD 0 0, l.getD 1 0) ∧ (tag = 0 ∨ (tag = 1 ∧ (x = 0 ∨ x = 1))) ∧ lv' = lv ∧ st' = r ∧ M' = (M.1, M.2.1, zi_up M.2.2.1 id slot x, M.2.2.2.1, M.2.2.2.2)) ∨
    (∃ id x r, st = .ref x :: .ref id :: r ∧ M.2.1 id = (0, l.getD 0 0, l.getD 1 0) ∧ tag = 2 ∧ lv' = lv ∧ st' = r ∧ M' = (M.1, M.2.1, M.2.2.1, M.2.2.2.1, zi_up M.2.2.2.2 id slot (some x))) := by
  unfold zi_pf at h
  split at h
  · split at h
    · rename_i hc
      simp only [Option.some.injEq, Sum.inl.injEq, Prod.mk.injEq] at h; obtain ⟨rfl, rfl, rfl⟩ := h; exact Or.inl ⟨_, _, _, rfl, hc, Or.inl rfl, rfl, rfl, rfl⟩
    · cases h
  · split at h
    · rename_i hc
      simp only [Option.some.injEq, Sum.inl.injEq, Prod.mk.injEq] at h; obtain ⟨rfl, rfl, rfl⟩ := h; exact Or.inl ⟨_, _, _, rfl, hc.1, Or.inr ⟨rfl, hc.2⟩, rfl, rfl, rfl⟩
    · cases h
  · split at h
    · rename_i hc
      simp only [Option.some.injEq, Sum.inl.injEq, Prod.mk.injEq] at h; obtain ⟨rfl, rfl, rfl⟩ := h; exact Or.inr ⟨_, _, _, rfl, hc, rfl, rfl, rfl, rfl⟩
    · cases h
  · cases h
theorem zi_ial_inv {sc : Nat × (Nat → Int32)} {lv lv' : zi_L} {st st' : List Value} {M M' : zi_M} (h : zi_ial sc lv st M = some (.inl (lv', st', M'))) :
    (∃ id j r, st = .int j :: .ref id :: r ∧ ((M.2.1 id).1 = 1 ∧ (M.2.1 id).2.1 = 0 ∧ zi_vin j (M.2.1 id).2.2 = true) ∧ lv' = lv ∧ st' = .int (M.2.2.1 id j.toNatClampNeg) :: r ∧ M' = M) ∨
    (∃ q j r, st = .int j :: .float q :: r ∧ zi_vin j (zi_ro sc q.toNat).1 = true ∧ lv' = lv ∧ st' = .int ((zi_ro sc q.toNat).2 j.toNatClampNeg) :: r ∧ M' = M) := by
  unfold zi_ial at h
  split at h
  · split at h
    · rename_i hc
      simp only [Option.some.injEq, Sum.inl.injEq, Prod.mk.injEq] at h; obtain ⟨rfl, rfl, rfl⟩ := h; exact Or.inl ⟨_, _, _, rfl, hc, rfl, rfl, rfl⟩
    · cases h
  · split at h
    · rename_i hc
      simp only [Option.some.injEq, Sum.inl.injEq, Prod.mk.injEq] at h; obtain ⟨rfl, rfl, rfl⟩ := h; exact Or.inr ⟨_, _, _, rfl, hc, rfl, rfl, rfl⟩
    · cases h
  · cases h

theorem zi_ias_inv {lv lv' : zi_L} {st st' : List Value} {M M' : zi_M} (h : zi_ias lv st M = some (.inl (lv', st', M'))) : ∃ id j x r, st = .int x :: .int j :: .ref id :: r ∧ ((M.2.1 id).1 = 1 ∧ (M.2.1 id).2.1 = 0 ∧ zi_vin j (M.2.1 id).2.2 = true) ∧ lv' = lv ∧ st' = r ∧ M' = (M.1, M.2.1, zi_up M.2.2.1 id j.toNatClampNeg x, M.2.2.2.1, M.2.2.2.2) := by
  unfold zi_ias at h
  split at h
  · split at h
    · rename_i hc
      simp only [Option.some.injEq, Sum.inl.injEq, Prod.mk.injEq] at h; obtain ⟨rfl, rfl, rfl⟩ := h; exact ⟨_, _, _, _, rfl, hc, rfl, rfl, rfl⟩
    · cases h
  · cases h
theorem zi_lal_inv {lv lv' : zi_L} {st st' : List Value} {M M' : zi_M} (h : zi_lal lv st M = some (.inl (lv', st', M'))) : ∃ id j r, st = .int j :: .ref id :: r ∧ ((M.2.1 id).1 = 2 ∧ (M.2.1 id).2.1 = 1 ∧ zi_vin j (M.2.1 id).2.2 = true) ∧ lv' = lv ∧ st' = .long (M.2.2.2.1 id j.toNatClampNeg) :: r ∧ M' = M := by
  unfold zi_lal at h
  split at h
  · split at h
    · rename_i hc
      simp only [Option.some.injEq, Sum.inl.injEq, Prod.mk.injEq] at h; obtain ⟨rfl, rfl, rfl⟩ := h; exact ⟨_, _, _, rfl, hc, rfl, rfl, rfl⟩
    · cases h
  · cases h
theorem zi_las_inv {lv lv' : zi_L} {st st' : List Value} {M M' : zi_M} (h : zi_las lv st M = some (.inl (lv', st', M'))) : ∃ id j x r, st = .long x :: .int j :: .ref id :: r ∧ ((M.2.1 id).1 = 2 ∧ (M.2.1 id).2.1 = 1 ∧ zi_vin j (M.2.1 id).2.2 = true) ∧ lv' = lv ∧ st' = r ∧ M' = (M.1, M.2.1, M.2.2.1, zi_up M.2.2.2.1 id j.toNatClampNeg x, M.2.2.2.2) := by
  unfold zi_las at h
  split at h
  · split at h
    · rename_i hc
      simp only [Option.some.injEq, Sum.inl.injEq, Prod.mk.injEq] at h; obtain ⟨rfl, rfl, rfl⟩ := h; exact ⟨_, _, _, _, rfl, hc, rfl, rfl, rfl⟩
    · cases h
  · cases h
theorem zi_aal_inv {lv lv' : zi_L} {st st' : List Value} {M M' : zi_M} (h : zi_aal lv st M = some (.inl (lv', st', M'))) : ∃ id j r, st = .int j :: .ref id :: r ∧ ((M.2.1 id).1 = 3 ∧ (2 ≤ (M.2.1 id).2.1 ∧ (M.2.1 id).2.1 < 6) ∧ zi_vin j (M.2.1 id).2.2 = true) ∧ lv' = lv ∧ st' = va_rf (M.2.2.2.2 id j.toNatClampNeg) :: r ∧ M' = M := by
  unfold zi_aal at h
  split at h
  · split at h
    · rename_i hc
      simp only [Option.some.injEq, Sum.inl.injEq, Prod.mk.injEq] at h; obtain ⟨rfl, rfl, rfl⟩ := h; exact ⟨_, _, _, rfl, hc, rfl, rfl, rfl⟩
    · cases h
  · cases h
theorem zi_aas_inv {lv lv' : zi_L} {st st' : List Value} {M M' : zi_M} (h : zi_aas lv st M = some (.inl (lv', st', M'))) : ∃ id j x r, st = .ref x :: .int j :: .ref id :: r ∧ ((M.2.1 id).1 = 3 ∧ (((M.2.1 id).2.1 = 2 ∧ M.2.1 x = (0, 5, 4)) ∨ ((M.2.1 id).2.1 = 3 ∧ M.2.1 x = (0, 4, 6))) ∧ zi_vin j (M.2.1 id).2.2 = true) ∧ lv' = lv ∧ st' = r ∧ M' = (M.1, M.2.1, M.2.2.1, M.2.2.2.1, zi_up M.2.2.2.2 id j.toNatClampNeg (some x)) := by
  unfold zi_aas at h
  split at h
  · split at h
    · rename_i hc
      simp only [Option.some.injEq, Sum.inl.injEq, Prod.mk.injEq] at h; obtain ⟨rfl, rfl, rfl⟩ := h; exact ⟨_, _, _, _, rfl, hc, rfl, rfl, rfl⟩
    · cases h
  · cases h
theorem zi_obj_inv {lv lv' : zi_L} {st st' : List Value} {M M' : zi_M} (h : zi_obj lv st M = some (.inl (lv', st', M'))) : ∃ id r, st = .ref id :: r ∧ (r.length ≤ 4) ∧ lv' = lv ∧ st' = r ∧ M' = M := by
  unfold zi_obj at h
  split at h
  · split at h
    · rename_i hc
      simp only [Option.some.injEq, Sum.inl.injEq, Prod.mk.injEq] at h; obtain ⟨rfl, rfl, rfl⟩ := h; exact ⟨_, _, rfl, hc, rfl, rfl, rfl⟩
    · cases h
  · cases h
theorem zi_aln_inv {sc : Nat × (Nat → Int32)} {lv lv' : zi_L} {st st' : List Value} {M M' : zi_M} (h : zi_aln sc lv st M = some (.inl (lv', st', M'))) :
    (∃ id r, st = .ref id :: r ∧ ((1 ≤ (M.2.1 id).1 ∧ (M.2.1 id).1 ≤ 3) ∧ (M.2.1 id).2.1 < 6) ∧ lv' = lv ∧ st' = .int (nI (M.2.1 id).2.2) :: r ∧ M' = M) ∨ (∃ q r, st = .float q :: r ∧ lv' = lv ∧ st' = .int (nI (zi_ro sc q.toNat).1) :: r ∧ M' = M) := by
  unfold zi_aln at h
  split at h
  · split at h
    · rename_i hc
      simp only [Option.some.injEq, Sum.inl.injEq, Prod.mk.injEq] at h; obtain ⟨rfl, rfl, rfl⟩ := h; exact Or.inl ⟨_, _, rfl, hc, rfl, rfl, rfl⟩
    · cases h
  · simp only [Option.some.injEq, Sum.inl.injEq, Prod.mk.injEq] at h; obtain ⟨rfl, rfl, rfl⟩ := h; exact Or.inr ⟨_, _, rfl, rfl, rfl, rfl⟩
  · cases h
theorem zi_na_inv {kd ty : Nat} {lv lv' : zi_L} {st st' : List Value} {M M' : zi_M} (h : zi_na kd ty lv st M = some (.inl (lv', st', M'))) : ∃ n r, st = .int n :: r ∧ (¬ n < 0 ∧ n.toNatClampNeg ≤ 1000) ∧ lv' = lv ∧ st' = .ref M.1 :: r ∧ M' = zi_born (kd, ty, n.toNatClampNeg) M := by
  unfold zi_na at h
  split at h
  · split at h
    · rename_i hc
      simp only [Option.some.injEq, Sum.inl.injEq, Prod.mk.injEq] at h; obtain ⟨rfl, rfl, rfl⟩ := h; exact ⟨_, _, rfl, hc, rfl, rfl, rfl⟩
    · cases h
  · cases h
/-- memory behind new T[n][k] -/
def zi_grid (ty kd ty2 n k : Nat) (M : zi_M) : zi_M := ((zi_rows (kd, ty2, k) n (zi_born (3, ty, n) M)).1, (zi_rows (kd, ty2, k) n (zi_born (3, ty, n) M)).2.1, (zi_rows (kd, ty2, k) n (zi_born (3, ty, n) M)).2.2.1, (zi_rows (kd, ty2, k) n (zi_born (3, ty, n) M)).2.2.2.1, zi_row (zi_rows (kd, ty2, k) n (zi_born (3, ty, n) M)).2.2.2.2 M.1 (fun j => if j < n then some (M.1 + 1 + j) else none))
theorem zi_mna_inv {ty kd ty2 : Nat} {lv lv' : zi_L} {st st' : List Value} {M M' : zi_M} (h : zi_mna ty kd ty2 lv st M = some (.inl (lv', st', M'))) : ∃ k n r, st = .int k :: .int n :: r ∧ ((¬ n < 0 ∧ n.toNatClampNeg ≤ 1000) ∧ (¬ k < 0 ∧ k.toNatClampNeg ≤ 1000)) ∧ lv' = lv ∧ st' = .ref M.1 :: r ∧ M' = zi_grid ty kd ty2 n.toNatClampNeg k.toNatClampNeg M := by
  unfold zi_mna at h
  split at h
  · split at h
    · rename_i hc
      simp only [Option.some.injEq, Sum.inl.injEq, Prod.mk.injEq] at h; obtain ⟨rfl, rfl, rfl⟩ := h; exact ⟨_, _, _, rfl, hc, rfl, rfl, rfl⟩
    · cases h
  · cases h
theorem zi_cp_inv {lv lv' : zi_L} {st st' : List Value} {M M' : zi_M} (h : zi_cp lv st M = some (.inl (lv', st', M'))) : ∃ n dp y sp x r, st = .int n :: .int dp :: .ref y :: .int sp :: .ref x :: r ∧ (((M.2.1 x).1 = 1 ∧ (M.2.1 x).2.1 = 0 ∧ (M.2.1 y).1 = 1 ∧ (M.2.1 y).2.1 = 0) ∧ (¬ sp < 0 ∧ ¬ dp < 0 ∧ ¬ n < 0) ∧ (sp.toNatClampNeg + n.toNatClampNeg ≤ (M.2.1 x).2.2 ∧ dp.toNatClampNeg + n.toNatClampNeg ≤ (M.2.1 y).2.2) ∧ r.length ≤ 4) ∧ lv' = lv ∧ st' = r ∧ M' = (M.1, M.2.1, zi_row M.2.2.1 y (va_cpy (M.2.2.1 x) (M.2.2.1 y) sp.toNatClampNeg dp.toNatClampNeg n.toNatClampNeg), M.2.2.2.1, M.2.2.2.2) := by
  unfold zi_cp at h
  split at h
  · split at h
    · rename_i hc
      simp only [Option.some.injEq, Sum.inl.injEq, Prod.mk.injEq] at h; obtain ⟨rfl, rfl, rfl⟩ := h; exact ⟨_, _, _, _, _, _, rfl, hc, rfl, rfl, rfl⟩
    · cases h
  · cases h
/-! branches: the two ways -/
theorem zi_if_inv {c : ClassFile.Cond} {b : Nat} {lv : zi_L} {st : List Value} {M : zi_M} {z : zi_N} (h : zi_if c b lv st M = some z) : ∃ x r, st = .int x :: r ∧ z = if zi_cmp c x 0 = true then .inr (.inl (b, r)) else .inl (lv, r, M) := by
  unfold zi_if at h
  split at h
  · rename_i x r
    refine ⟨x, r, rfl, ?_⟩
    split at h
    · rename_i hc
      rw [if_pos hc]; exact (Option.some.inj h).symm
    · rename_i hc
      rw [if_neg hc]; exact (Option.some.inj h).symm
  · cases h
theorem zi_ic_inv {c : ClassFile.Cond} {b : Nat} {lv : zi_L} {st : List Value} {M : zi_M} {z : zi_N} (h : zi_ic c b lv st M = some z) : ∃ x y r, st = .int y :: .int x :: r ∧ z = if zi_cmp c x y = true then .inr (.inl (b, r)) else .inl (lv, r, M) := by
  unfold zi_ic at h
  split at h
  · rename_i y x r
    refine ⟨x, y, r, rfl, ?_⟩
    split at h
    · rename_i hc
      rw [if_pos hc]; exact (Option.some.inj h).symm
    · rename_i hc
      rw [if_neg hc]; exact (Option.some.inj h).symm
  · cases h
theorem zi_nul_inv {b : Nat} {lv : zi_L} {st : List Value} {M : zi_M} {z : zi_N} (h : zi_nul b lv st M = some z) : (∃ r, st = .null :: r ∧ z = .inr (.inl (b, r))) ∨ ∃ x r, st = .ref x :: r ∧ z = .inl (lv, r, M) := by
  unfold zi_nul at h
  split at h
  · exact Or.inl ⟨_, rfl, (Option.some.inj h).symm⟩
  · exact Or.inr ⟨_, _, rfl, (Option.some.inj h).symm⟩
  · cases h
theorem zi_nnl_inv {b : Nat} {lv : zi_L} {st : List Value} {M : zi_M} {z : zi_N} (h : zi_nnl b lv st M = some z) : (∃ r, st = .null :: r ∧ z = .inl (lv, r, M)) ∨ ∃ x r, st = .ref x :: r ∧ z = .inr (.inl (b, r)) := by
  unfold zi_nnl at h
  split at h
  · exact Or.inl ⟨_, rfl, (Option.some.inj h).symm⟩
  · exact Or.inr ⟨_, _, rfl, (Option.some.inj h).symm⟩
  · cases h
theorem zi_sw_inv {f : Int32 → Nat} {st : List Value} {z : zi_N} (h : zi_sw f st = some z) : ∃ x r, st = .int x :: r ∧ z = .inr (.inl (f x, r)) := by
  unfold zi_sw at h
  split at h
  · exact ⟨_, _, rfl, (Option.some.inj h).symm⟩
  · cases h
theorem zi_iv_inv {j n : Nat} {l : List Nat} {st : List Value} {z : zi_N} (h : zi_iv j n l st = some z) : ∃ as r, zi_pop n [] st = some (as, r) ∧ zi_sh r = true ∧ zi_fit as (l.getD 0 0) = true ∧ z = .inr (.inr (.inr (j, as, r))) := by
  unfold zi_iv at h
  split at h
  · rename_i as r hp
    split at h
    · rename_i hc
      exact ⟨as, r, hp, hc.1, hc.2, (Option.some.inj h).symm⟩
    · cases h
  · cases h
theorem zi_ivr_inv {j n : Nat} {l : List Nat} {st : List Value} {M : zi_M} {z : zi_N} (h : zi_ivr j n l st M = some z) : ∃ id as r, zi_pop n [] st = some (.ref id :: as, r) ∧ M.2.1 id = (0, l.getD 0 0, l.getD 1 0) ∧ zi_sh r = true ∧ zi_fit (.ref id :: as) (l.getD 2 0) = true ∧ z = .inr (.inr (.inr (j, .ref id :: as, r))) := by
  unfold zi_ivr at h
  split at h
  · rename_i id as r hp
    split at h
    · rename_i hc
      exact ⟨id, as, r, hp, hc.1, hc.2.1, hc.2.2, (Option.some.inj h).symm⟩
    · cases h
  · cases h
theorem zi_ri_inv {q : Nat} {st : List Value} {z : zi_N} (h : zi_ri q st = some z) : ∃ x, st = [.int x] ∧ (q = 1 → x = 0 ∨ x = 1) ∧ z = .inr (.inr (.inl (some (.int x)))) := by
  unfold zi_ri at h
  split at h
  · rename_i x
    split at h
    · split at h
      · rename_i hx
        exact ⟨x, rfl, fun _ => hx, (Option.some.inj h).symm⟩
      · cases h
    · rename_i hq
      exact ⟨x, rfl, fun q => absurd q hq, (Option.some.inj h).symm⟩
  · cases h
theorem zi_rl_inv {st : List Value} {z : zi_N} (h : zi_rl st = some z) : ∃ x, st = [.long x] ∧ z = .inr (.inr (.inl (some (.long x)))) := by
  unfold zi_rl at h
  split at h
  · exact ⟨_, rfl, (Option.some.inj h).symm⟩
  · cases h
theorem zi_ra_inv {st : List Value} {z : zi_N} (h : zi_ra st = some z) : ∃ v, st = [v] ∧ (v = .null ∨ ∃ x, v = .ref x) ∧ z = .inr (.inr (.inl (some v))) := by
  unfold zi_ra at h
  split at h
  · exact ⟨_, rfl, Or.inr ⟨_, rfl⟩, (Option.some.inj h).symm⟩
  · exact ⟨_, rfl, Or.inl rfl, (Option.some.inj h).symm⟩
  · cases h
theorem zi_rv_inv {st : List Value} {z : zi_N} (h : zi_rv st = some z) : st = [] ∧ z = .inr (.inr (.inl none)) := by
  unfold zi_rv at h
  split at h
  · exact ⟨rfl, (Option.some.inj h).symm⟩
  · cases h
