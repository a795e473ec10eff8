/-! a TEXT, code by code -/
abbrev zTt : Type := Nat × Nat × Nat × (Nat → zRt)
def zkO (c : Int32) : Option Nat := if c = 112 then some 0 else if c = 98 then some 1 else if c = 116 then some 2 else none
def zsO (c : Int32) : Option Nat := if c = 115 then some 0 else if c = 105 then some 1 else if c = 100 then some 2 else if c = 99 then some 3 else if c = 107 then some 4 else none
def zoI : Option Nat → Int32
  | none => -9
  | some g => nI g
def zNw : zRt := (0, 1, 0, fun _ => 0)
/-- the steps: 0 mark, 1 ring, 2 first round, 3 kind, 4 spun, 5 signs -/
def zTk (T : zTt) (c : Int32) : Option zTt :=
  if T.1 = 0 then (if c = 114 then some (1, T.2) else none)
  else if T.1 = 1 then (if 51 ≤ c ∧ c ≤ 56 then some (2, c.toNatClampNeg - 48, T.2.2) else none)
  else if T.1 = 2 then (if c = 59 ∧ T.2.2.1 < 6 then some (3, T.2.1, T.2.2.1 + 1, va_up T.2.2.2 T.2.2.1 zNw) else none)
  else if T.1 = 3 then (match zkO c with
    | some k => some (4, T.2.1, T.2.2.1, va_up T.2.2.2 (T.2.2.1 - 1) (k, (T.2.2.2 (T.2.2.1 - 1)).2))
    | none => none)
  else if T.1 = 4 then (if 49 ≤ c ∧ c ≤ 57 then some (5, T.2.1, T.2.2.1, va_up T.2.2.2 (T.2.2.1 - 1) ((T.2.2.2 (T.2.2.1 - 1)).1, c.toNatClampNeg - 48, (T.2.2.2 (T.2.2.1 - 1)).2.2)) else none)
  else (match zsO c with
    | some g => if (T.2.2.2 (T.2.2.1 - 1)).2.2.1 < 5 then some (5, T.2.1, T.2.2.1, va_up T.2.2.2 (T.2.2.1 - 1) ((T.2.2.2 (T.2.2.1 - 1)).1, (T.2.2.2 (T.2.2.1 - 1)).2.1, (T.2.2.2 (T.2.2.1 - 1)).2.2.1 + 1, va_up (T.2.2.2 (T.2.2.1 - 1)).2.2.2 (T.2.2.2 (T.2.2.1 - 1)).2.2.1 g)) else none
    | none => if 0 < (T.2.2.2 (T.2.2.1 - 1)).2.2.1 ∧ c = 59 ∧ T.2.2.1 < 6 then some (3, T.2.1, T.2.2.1 + 1, va_up T.2.2.2 T.2.2.1 zNw) else none)
def zTf (f : Nat → Int32) (i : Nat) : Nat → Nat → zTt → Option Nat × zTt
  | 0, p, T => if T.1 = 5 ∧ 0 < (T.2.2.2 (T.2.2.1 - 1)).2.2.1 then (none, T) else (some p, T)
  | d + 1, p, T => match zTk T (f (i + p)) with
    | none => (some p, T)
    | some T' => zTf f i d (p + 1) T'
/-- a round under way, or done -/
def zRk (x : zRt) : Prop := x.1 < 3 ∧ (1 ≤ x.2.1 ∧ x.2.1 ≤ 9) ∧ x.2.2.1 ≤ 5 ∧ ∀ i, i < x.2.2.1 → x.2.2.2 i < 5
def zTok (T : zTt) : Prop := T.1 ≤ 5 ∧ (2 ≤ T.1 → 3 ≤ T.2.1 ∧ T.2.1 ≤ 8) ∧ T.2.2.1 ≤ 6 ∧ (T.1 ≤ 2 → T.2.2.1 = 0) ∧ (3 ≤ T.1 → 1 ≤ T.2.2.1) ∧ (∀ r, r < T.2.2.1 → zRk (T.2.2.2 r) ∧ (r + 1 < T.2.2.1 → 1 ≤ (T.2.2.2 r).2.2.1)) ∧ (T.1 = 3 ∨ T.1 = 4 → (T.2.2.2 (T.2.2.1 - 1)).2.2.1 = 0)
theorem zsO_5 {c : Int32} {g : Nat} (h : zsO c = some g) : g < 5 := by
  unfold zsO at h
  by_cases c1 : c = 115
  · rw [if_pos c1] at h; cases h; omega
  rw [if_neg c1] at h
  by_cases c2 : c = 105
  · rw [if_pos c2] at h; cases h; omega
  rw [if_neg c2] at h
  by_cases c3 : c = 100
  · rw [if_pos c3] at h; cases h; omega
  rw [if_neg c3] at h
  by_cases c4 : c = 99
  · rw [if_pos c4] at h; cases h; omega
  rw [if_neg c4] at h
  by_cases c5 : c = 107
  · rw [if_pos c5] at h; cases h; omega
  rw [if_neg c5] at h; cases h
theorem zkO_3 {c : Int32} {g : Nat} (h : zkO c = some g) : g < 3 := by
  unfold zkO at h
  by_cases c1 : c = 112
  · rw [if_pos c1] at h; cases h; omega
  rw [if_neg c1] at h
  by_cases c2 : c = 98
  · rw [if_pos c2] at h; cases h; omega
  rw [if_neg c2] at h
  by_cases c3 : c = 116
  · rw [if_pos c3] at h; cases h; omega
  rw [if_neg c3] at h; cases h
theorem zl_48 : (48 : Int32).toInt = 48 := rfl
theorem zl_49 : (49 : Int32).toInt = 49 := rfl
theorem zl_51 : (51 : Int32).toInt = 51 := rfl
theorem zl_56 : (56 : Int32).toInt = 56 := rfl
theorem zl_57 : (57 : Int32).toInt = 57 := rfl
theorem zdg8 {c : Int32} (h : 51 ≤ c ∧ c ≤ 56) : 3 ≤ c.toNatClampNeg - 48 ∧ c.toNatClampNeg - 48 ≤ 8 ∧ c - 48 = nI (c.toNatClampNeg - 48) := by
  obtain ⟨h1, h2⟩ := h
  simp only [zt_eq, Int32.lt_iff_toInt_lt, Int32.le_iff_toInt_le, zt_add, zt_sub, zt_neg, zt_nI, zl_0, zl_1, zl_2, zl_3, zl_4, zl_5, zl_6, zl_7, zl_8, zl_9, zl_10, zl_16, zl_20, zl_30, zl_60, zl_1080, zl_m1, zl_m2, zl_m9, zl_51, zl_56] at h1 h2
  have e : c.toNatClampNeg = c.toInt.toNat := rfl
  rw [e]
  refine ⟨by omega, by omega, ?_⟩
  rw [zt_eq, zt_sub, zt_nI, zl_48]
  omega
theorem zdg9 {c : Int32} (h : 49 ≤ c ∧ c ≤ 57) : 1 ≤ c.toNatClampNeg - 48 ∧ c.toNatClampNeg - 48 ≤ 9 ∧ c - 48 = nI (c.toNatClampNeg - 48) := by
  obtain ⟨h1, h2⟩ := h
  simp only [zt_eq, Int32.lt_iff_toInt_lt, Int32.le_iff_toInt_le, zt_add, zt_sub, zt_neg, zt_nI, zl_0, zl_1, zl_2, zl_3, zl_4, zl_5, zl_6, zl_7, zl_8, zl_9, zl_10, zl_16, zl_20, zl_30, zl_60, zl_1080, zl_m1, zl_m2, zl_m9, zl_49, zl_57] at h1 h2
  have e : c.toNatClampNeg = c.toInt.toNat := rfl
  rw [e]
  refine ⟨by omega, by omega, ?_⟩
  rw [zt_eq, zt_sub, zt_nI, zl_48]
  omega
theorem zdg8n {c : Int32} (h : ¬ (51 ≤ c ∧ c ≤ 56)) (h1 : ¬ c - 48 < 3) : 8 < c - 48 := by
  have hr := zt_ran c
  rw [Int32.lt_iff_toInt_lt, zt_sub, zl_48, zl_3] at h1
  rw [Int32.lt_iff_toInt_lt, zt_sub, zl_48, zl_8]
  simp only [Int32.le_iff_toInt_le, zl_51, zl_56] at h
  omega
theorem zdg9n {c : Int32} (h : ¬ (49 ≤ c ∧ c ≤ 57)) (h1 : ¬ c - 48 < 1) : ¬ c - 48 ≤ 9 := by
  have hr := zt_ran c
  rw [Int32.lt_iff_toInt_lt, zt_sub, zl_48, zl_1] at h1
  rw [Int32.le_iff_toInt_le, zt_sub, zl_48, zl_9]
  simp only [Int32.le_iff_toInt_le, zl_49, zl_57] at h
  omega
theorem zRk_nw : zRk zNw := ⟨by show 0 < 3; omega, by show 1 ≤ 1 ∧ 1 ≤ 9; omega, by show 0 ≤ 5; omega, fun i hi => absurd hi (Nat.not_lt_zero _)⟩
theorem zTok.app {st ring n : Nat} {rd : Nat → zRt} (h : zTok (st, ring, n, rd)) (hst : 2 ≤ st) (h6 : n < 6) (hc : 1 ≤ n → 1 ≤ (rd (n - 1)).2.2.1) : zTok (3, ring, n + 1, va_up rd n zNw) := by
  obtain ⟨h1, h2, h3, h4, h5, h6', h7⟩ := h
  dsimp only at h1 h2 h3 h4 h5 h6' h7
  refine ⟨by show 3 ≤ 5; omega, fun _ => h2 hst, by show n + 1 ≤ 6; omega, fun q => absurd q (by show ¬ 3 ≤ 2; omega), fun _ => by show 1 ≤ n + 1; omega, fun r hr => ?_, fun _ => ?_⟩
  · have hr' : r < n + 1 := hr
    show zRk (va_up rd n zNw r) ∧ (r + 1 < n + 1 → 1 ≤ (va_up rd n zNw r).2.2.1)
    by_cases e : r = n
    · rw [e, zup_eq]; exact ⟨zRk_nw, fun q => by omega⟩
    · rw [zup_lt (show r < n by omega)]
      refine ⟨(h6' r (by omega)).1, fun _ => ?_⟩
      by_cases e2 : r + 1 < n
      · exact (h6' r (by omega)).2 e2
      · have := hc (by omega)
        rw [show r = n - 1 by omega]; exact this
  · show (va_up rd n zNw (n + 1 - 1)).2.2.1 = 0
    rw [show n + 1 - 1 = n by omega, zup_eq]
    rfl
theorem zTok.up {st st' ring n : Nat} {rd : Nat → zRt} {x : zRt} (h : zTok (st, ring, n, rd)) (h3 : 3 ≤ st) (h3' : 3 ≤ st' ∧ st' ≤ 5) (hx : zRk x) (hc : st' = 3 ∨ st' = 4 → x.2.2.1 = 0) : zTok (st', ring, n, va_up rd (n - 1) x) := by
  obtain ⟨h1, h2, hn, h4, h5, h6, h7⟩ := h
  dsimp only at h1 h2 hn h4 h5 h6 h7
  have hn1 := h5 h3
  refine ⟨h3'.2, fun _ => h2 (by omega), hn, fun q => absurd (show st' ≤ 2 from q) (by omega), fun _ => hn1, fun r hr => ?_, fun q => ?_⟩
  · have hr' : r < n := hr
    show zRk (va_up rd (n - 1) x r) ∧ (r + 1 < n → 1 ≤ (va_up rd (n - 1) x r).2.2.1)
    by_cases e : r = n - 1
    · rw [e, va_up_self]; exact ⟨hx, fun q => by omega⟩
    · rw [va_up_ne _ _ e]; exact h6 r hr'
  · show (va_up rd (n - 1) x (n - 1)).2.2.1 = 0
    rw [va_up_self]
    exact hc q
theorem zTk_ok {T T' : zTt} {c : Int32} (h : zTok T) (e : zTk T c = some T') : zTok T' := by
  obtain ⟨st, ring, n, rd⟩ := T
  obtain ⟨h1, h2, h3, h4, h5, h6, h7⟩ := id h
  unfold zTk at e
  dsimp only at e h1 h2 h3 h4 h5 h6 h7
  by_cases c0 : st = 0
  · subst c0
    rw [if_pos rfl] at e
    by_cases q : c = 114
    · rw [if_pos q] at e
      cases e
      exact ⟨by show 1 ≤ 5; omega, fun q => absurd (show 2 ≤ 1 from q) (by omega), h3, fun _ => h4 (by omega), fun q => absurd (show 3 ≤ 1 from q) (by omega), h6, fun q => absurd (show (1 : Nat) = 3 ∨ 1 = 4 from q) (by omega)⟩
    · rw [if_neg q] at e; cases e
  rw [if_neg c0] at e
  by_cases c1 : st = 1
  · subst c1
    rw [if_pos rfl] at e
    by_cases q : 51 ≤ c ∧ c ≤ 56
    · rw [if_pos q] at e
      cases e
      obtain ⟨a, b, -⟩ := zdg8 q
      exact ⟨by show 2 ≤ 5; omega, fun _ => ⟨a, b⟩, h3, fun _ => h4 (by omega), fun q => absurd (show 3 ≤ 2 from q) (by omega), h6, fun q => absurd (show (2 : Nat) = 3 ∨ 2 = 4 from q) (by omega)⟩
    · rw [if_neg q] at e; cases e
  rw [if_neg c1] at e
  by_cases c2 : st = 2
  · subst c2
    rw [if_pos rfl] at e
    by_cases q : c = 59 ∧ n < 6
    · rw [if_pos q] at e
      cases e
      exact h.app (by omega) q.2 (fun q => by have := h4 (by omega); omega)
    · rw [if_neg q] at e; cases e
  rw [if_neg c2] at e
  have hl := h6 (n - 1) (by have := h5 (by omega); omega)
  obtain ⟨⟨l1, l2, l3, l4⟩, -⟩ := hl
  by_cases c3 : st = 3
  · subst c3
    rw [if_pos rfl] at e
    cases hk : zkO c with
    | none => rw [hk] at e; cases e
    | some k =>
      rw [hk] at e
      cases e
      exact h.up (by omega) (by omega) ⟨zkO_3 hk, l2, l3, l4⟩ (fun _ => h7 (Or.inl rfl))
  rw [if_neg c3] at e
  by_cases c4 : st = 4
  · subst c4
    rw [if_pos rfl] at e
    by_cases q : 49 ≤ c ∧ c ≤ 57
    · rw [if_pos q] at e
      cases e
      obtain ⟨a, b, -⟩ := zdg9 q
      exact h.up (by omega) (by omega) ⟨l1, ⟨a, b⟩, l3, l4⟩ (fun q => by omega)
    · rw [if_neg q] at e; cases e
  rw [if_neg c4] at e
  cases hk : zsO c with
  | none =>
    rw [hk] at e
    dsimp only at e
    by_cases q : 0 < (rd (n - 1)).2.2.1 ∧ c = 59 ∧ n < 6
    · rw [if_pos q] at e
      cases e
      exact h.app (by omega) q.2.2 (fun _ => q.1)
    · rw [if_neg q] at e; cases e
  | some g =>
    rw [hk] at e
    dsimp only at e
    by_cases q : (rd (n - 1)).2.2.1 < 5
    · rw [if_pos q] at e
      cases e
      refine h.up (by omega) (by omega) ⟨l1, l2, by show _ + 1 ≤ 5; omega, fun i hi => ?_⟩ (fun q => by omega)
      have hi' : i < (rd (n - 1)).2.2.1 + 1 := hi
      show va_up (rd (n - 1)).2.2.2 (rd (n - 1)).2.2.1 g i < 5
      by_cases e2 : i = (rd (n - 1)).2.2.1
      · rw [e2, va_up_self]; exact zsO_5 hk
      · rw [va_up_ne _ _ e2]; exact l4 i (by omega)
    · rw [if_neg q] at e; cases e
