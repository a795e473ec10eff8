/-! THE WORLD of the interpreter's memory: cell number k lies at a0 + k -/
def zi_ty : Nat → Nat → FieldType
  | 0 => tyX0
  | 1 => tyX1
  | 2 => tyX2
  | 3 => tyX3
  | 4 => tyX4
  | 5 => tyX5
  | 6 => tyX6
  | 7 => tyX7
  | _ => tyX8
def zi_tgt (ty : FieldType) : Nat := match ty with
  | .int => 0
  | .boolean => 1
  | _ => 2
def zi_tg (ci k : Nat) : Nat := if zi_tgt (zi_ty ci k) = 2 then 2 else 0
def zi_con (a0 : Nat) (σ : Nat → Nat) : Value → Value
  | .ref k => .ref (a0 + k)
  | .float q => .ref (σ q.toNat)
  | v => v
def zi_ad (a0 : Nat) (r : Option Nat) : Option Nat := r.map (fun k => a0 + k)
def zi_fs (a0 ci n : Nat) (I : Nat → Int32) (R : Nat → Option Nat) : List Value := (List.range n).map (fun k => zi_fv (zi_tg ci k) (I k) (zi_ad a0 (R k)))
def zi_cel (a0 : Nat) (τ : Nat → ClassId) (t : Nat × Nat × Nat) (I : Nat → Int32) (J : Nat → Int64) (R : Nat → Option Nat) : va_E := match t.1 with
  | 0 => .inr (t.2.1, zi_fs a0 t.2.1 t.2.2 I R)
  | 1 => .inl (τ t.2.1, t.2.2, .inl I)
  | 2 => .inl (τ t.2.1, t.2.2, .inr (.inl J))
  | _ => .inl (τ t.2.1, t.2.2, .inr (.inr (.inr (.inr (fun j => zi_ad a0 (R j))))))
def zi_c (a0 : Nat) (τ : Nat → ClassId) (M : zi_M) (j : Nat) : va_E := zi_cel a0 τ (M.2.1 j) (M.2.2.1 j) (M.2.2.2.1 j) (M.2.2.2.2 j)
def zi_ws (a0 : Nat) (τ : Nat → ClassId) (M : zi_M) : va_W := (List.range M.1).map (fun j => (a0 + j, zi_c a0 τ M j))
theorem zi_ws_at {a0 : Nat} {τ : Nat → ClassId} {M : zi_M} {j : Nat} (h : j < M.1) : (zi_ws a0 τ M)[j]? = some (a0 + j, zi_c a0 τ M j) := by
  unfold zi_ws
  rw [List.getElem?_map, List.getElem?_range h]
  rfl
theorem zi_ws_some {a0 : Nat} {τ : Nat → ClassId} {M : zi_M} {j : Nat} {q : Nat × va_E} (h : (zi_ws a0 τ M)[j]? = some q) : j < M.1 ∧ q = (a0 + j, zi_c a0 τ M j) := by
  have hl : j < (zi_ws a0 τ M).length := (List.getElem?_eq_some_iff.mp h).1
  have hj : j < M.1 := by simpa [zi_ws] using hl
  rw [zi_ws_at hj] at h
  exact ⟨hj, (Option.some.inj h).symm⟩
theorem zi_ws_len (a0 : Nat) (τ : Nat → ClassId) (M : zi_M) : (zi_ws a0 τ M).length = M.1 := by simp [zi_ws]
theorem zi_Dd (a0 : Nat) (τ : Nat → ClassId) (M : zi_M) : va_D (fun q => a0 ≤ q) (zi_ws a0 τ M) := by
  refine ⟨fun i j p q hi hj hpq => ?_, fun k q hk => ?_⟩
  · obtain ⟨-, rfl⟩ := zi_ws_some hi
    obtain ⟨-, rfl⟩ := zi_ws_some hj
    have h : a0 + i = a0 + j := hpq
    omega
  · obtain ⟨-, rfl⟩ := zi_ws_some hk
    exact Nat.le_add_right _ _
theorem zi_ws_set {a0 : Nat} {τ : Nat → ClassId} {M M' : zi_M} (j : Nat) (hN : M'.1 = M.1) (h : ∀ i, i ≠ j → zi_c a0 τ M' i = zi_c a0 τ M i) : zi_ws a0 τ M' = (zi_ws a0 τ M).set j (a0 + j, zi_c a0 τ M' j) := by
  apply List.ext_getElem?
  intro i
  by_cases hl : i < M.1
  · rw [zi_ws_at (by rw [hN]; exact hl)]
    by_cases hij : i = j
    · subst hij
      rw [List.getElem?_set_self (by rw [zi_ws_len]; exact hl)]
    · rw [List.getElem?_set_ne (fun e => hij e.symm), zi_ws_at hl, h i hij]
  · rw [List.getElem?_eq_none (by rw [zi_ws_len, hN]; omega), List.getElem?_eq_none (by rw [List.length_set, zi_ws_len]; omega)]
theorem zi_ws_push {a0 : Nat} {τ : Nat → ClassId} {M M' : zi_M} (hN : M'.1 = M.1 + 1) (h : ∀ i, i < M.1 → zi_c a0 τ M' i = zi_c a0 τ M i) : zi_ws a0 τ M' = zi_ws a0 τ M ++ [(a0 + M.1, zi_c a0 τ M' M.1)] := by
  unfold zi_ws
  rw [hN, List.range_succ, List.map_append]
  congr 1
  apply List.map_congr_left
  intro i hi
  rw [h i (List.mem_range.mp hi)]
theorem zi_row_eq {α : Type} (h : Nat → Nat → α) (i : Nat) (r : Nat → α) : zi_row h i r i = r := if_pos rfl
theorem zi_row_ne {α : Type} (h : Nat → Nat → α) {i j : Nat} (r : Nat → α) (e : j ≠ i) : zi_row h i r j = h j := if_neg e
theorem zi_up_eq {α : Type} (h : Nat → Nat → α) (i k : Nat) (v : α) : zi_up h i k v i = va_up (h i) k v := if_pos rfl
theorem zi_up_ne {α : Type} (h : Nat → Nat → α) {i j : Nat} (k : Nat) (v : α) (e : j ≠ i) : zi_up h i k v j = h j := if_neg e
/-- the world of a memory -/
def zi_W (a0 : Nat) (τ : Nat → ClassId) (dC : Nat → ClassId) (dI : Nat → Nat → Nat) (M : zi_M) (H : Heap) : Prop := (H.size = a0 + M.1 ∧ ∀ j, M.1 ≤ j → (M.2.1 j).1 = 9) ∧ va_P (dC, dI) vwCl (zi_ws a0 τ M) H
theorem zi_W.lt {a0 : Nat} {τ : Nat → ClassId} {dC : Nat → ClassId} {dI : Nat → Nat → Nat} {M : zi_M} {H : Heap} (h : zi_W a0 τ dC dI M H) {j : Nat} (hj : (M.2.1 j).1 ≠ 9) : j < M.1 := by
  rcases Nat.lt_or_ge j M.1 with q | q
  · exact q
  · exact absurd (h.1.2 j q) hj
/-! locals -/
def zi_lp (a0 : Nat) (σ : Nat → Nat) : Nat → zi_L → List (Nat × Value)
  | _, [] => []
  | i, none :: t => zi_lp a0 σ (i + 1) t
  | i, some v :: t => (i, zi_con a0 σ v) :: zi_lp a0 σ (i + 1) t
theorem zi_lp_mem {a0 : Nat} {σ : Nat → Nat} : ∀ (lv : zi_L) (i : Nat) (q : Nat × Value), q ∈ zi_lp a0 σ i lv ↔ ∃ n v, zi_get lv n = some v ∧ q = (i + n, zi_con a0 σ v)
  | [], i, q => by simp [zi_lp, zi_get]
  | none :: t, i, q => by
    simp only [zi_lp]
    rw [zi_lp_mem t (i + 1) q]
    constructor
    · rintro ⟨n, v, h1, h2⟩
      exact ⟨n + 1, v, h1, by rw [h2]; congr 1; omega⟩
    · rintro ⟨n, v, h1, h2⟩
      cases n with
      | zero => cases h1
      | succ n => exact ⟨n, v, h1, by rw [h2]; congr 1; omega⟩
  | some w :: t, i, q => by
    simp only [zi_lp, List.mem_cons]
    rw [zi_lp_mem t (i + 1) q]
    constructor
    · rintro (h | ⟨n, v, h1, h2⟩)
      · exact ⟨0, w, rfl, h⟩
      · exact ⟨n + 1, v, h1, by rw [h2]; congr 1; omega⟩
    · rintro ⟨n, v, h1, h2⟩
      cases n with
      | zero => cases h1; exact Or.inl h2
      | succ n => exact Or.inr ⟨n, v, h1, by rw [h2]; congr 1; omega⟩
theorem zi_get_put : ∀ (lv : zi_L) (i : Nat) (x : Option Value) (n : Nat), zi_get (zi_put lv i x) n = if n = i then x else zi_get lv n
  | [], 0, x, 0 => by simp [zi_put, zi_get]
  | [], 0, x, n + 1 => by simp [zi_put, zi_get]
  | [], i + 1, x, 0 => by simp [zi_put, zi_get]
  | [], i + 1, x, n + 1 => by
    simp only [zi_put, zi_get]
    rw [zi_get_put [] i x n]
    simp [zi_get]
  | y :: t, 0, x, 0 => by simp [zi_put, zi_get]
  | y :: t, 0, x, n + 1 => by simp [zi_put, zi_get]
  | y :: t, i + 1, x, 0 => by simp [zi_put, zi_get]
  | y :: t, i + 1, x, n + 1 => by
    simp only [zi_put, zi_get]
    rw [zi_get_put t i x n]
    simp
theorem zi_has_get {a0 : Nat} {σ : Nat → Nat} {ls : Array Slot} {nL : Nat} {lv : zi_L} (h : lv_has ls nL (zi_lp a0 σ 0 lv)) {n : Nat} {v : Value} (hg : zi_get lv n = some v) : ls[n]? = some (.val (zi_con a0 σ v)) := by
  have := h.2.2 (n, zi_con a0 σ v) ((zi_lp_mem lv 0 _).mpr ⟨n, v, hg, by simp⟩)
  exact this
theorem zi_has_mono {ls : Array Slot} {nL : Nat} {l l' : List (Nat × Value)} (h : lv_has ls nL l) (hm : ∀ q ∈ l', q ∈ l) : lv_has ls nL l' := ⟨h.1, h.2.1, fun q hq => h.2.2 q (hm q hq)⟩
theorem zi_con_cat (a0 : Nat) (σ : Nat → Nat) (v : Value) : (zi_con a0 σ v).category = v.category := by cases v <;> rfl
theorem zi_isL_cat (v : Value) : zi_isL (some v) = true ↔ v.category = 2 := by cases v <;> simp [zi_isL, Value.category]
theorem zi_get_kl (lv : zi_L) (i n : Nat) (v : Value) (h : zi_get (zi_kl lv i) n = some v) : zi_get lv n = some v ∧ ¬ (n + 1 = i ∧ v.category = 2) := by
  cases i with
  | zero => exact ⟨h, fun q => by omega⟩
  | succ i =>
    simp only [zi_kl] at h
    by_cases hl : zi_isL (zi_get lv i) = true
    · rw [if_pos hl, zi_get_put] at h
      by_cases hn : n = i
      · rw [if_pos hn] at h; cases h
      · rw [if_neg hn] at h
        exact ⟨h, fun q => hn (by omega)⟩
    · rw [if_neg hl] at h
      refine ⟨h, fun q => hl ?_⟩
      have e : n = i := by omega
      subst e
      rw [h]
      exact (zi_isL_cat v).mpr q.2
theorem zi_has_st1 {a0 : Nat} {σ : Nat → Nat} {ls : Array Slot} {nL : Nat} {lv : zi_L} {i : Nat} {v : Value} (h : lv_has ls nL ((i, zi_con a0 σ v) :: (zi_lp a0 σ 0 lv).filter (fun q => !(q.1 == i) && !(q.1 + 1 == i && q.2.category == 2)))) : lv_has ls nL (zi_lp a0 σ 0 (zi_st1 lv i v)) := by
  refine zi_has_mono h (fun q hq => ?_)
  obtain ⟨n, w, h1, rfl⟩ := (zi_lp_mem _ _ _).mp hq
  simp only [zi_st1, zi_get_put] at h1
  by_cases hn : n = i
  · rw [if_pos hn] at h1
    cases h1
    subst hn
    simp
  · rw [if_neg hn] at h1
    obtain ⟨h2, h3⟩ := zi_get_kl lv i n w h1
    refine List.mem_cons_of_mem _ (List.mem_filter.mpr ⟨(zi_lp_mem _ _ _).mpr ⟨n, w, h2, rfl⟩, ?_⟩)
    simp only [Nat.zero_add, zi_con_cat]
    have h4 : ¬ (n + 1 = i) ∨ ¬ w.category = 2 := by
      by_cases e : n + 1 = i
      · exact Or.inr (fun q => h3 ⟨e, q⟩)
      · exact Or.inl e
    rcases h4 with h4 | h4 <;> simp [hn, h4]
theorem zi_has_st2 {a0 : Nat} {σ : Nat → Nat} {ls : Array Slot} {nL : Nat} {lv : zi_L} {i : Nat} {v : Value} (h : lv_has ls nL ((i, zi_con a0 σ v) :: (zi_lp a0 σ 0 lv).filter (fun q => !(q.1 == i) && (!(q.1 == i + 1) && !(q.1 + 1 == i && q.2.category == 2))))) : lv_has ls nL (zi_lp a0 σ 0 (zi_st2 lv i v)) := by
  refine zi_has_mono h (fun q hq => ?_)
  obtain ⟨n, w, h1, rfl⟩ := (zi_lp_mem _ _ _).mp hq
  simp only [zi_st2, zi_get_put] at h1
  by_cases hn2 : n = i + 1
  · rw [if_pos hn2] at h1
    cases h1
  · rw [if_neg hn2] at h1
    by_cases hn : n = i
    · rw [if_pos hn] at h1
      cases h1
      subst hn
      simp
    · rw [if_neg hn] at h1
      obtain ⟨h2, h3⟩ := zi_get_kl lv i n w h1
      refine List.mem_cons_of_mem _ (List.mem_filter.mpr ⟨(zi_lp_mem _ _ _).mpr ⟨n, w, h2, rfl⟩, ?_⟩)
      simp only [Nat.zero_add, zi_con_cat]
      have h4 : ¬ (n + 1 = i) ∨ ¬ w.category = 2 := by
        by_cases e : n + 1 = i
        · exact Or.inr (fun q => h3 ⟨e, q⟩)
        · exact Or.inl e
      rcases h4 with h4 | h4 <;> simp [hn, hn2, h4]
/-- a method's first locals -/
theorem zi_la_mem {a0 : Nat} {σ : Nat → Nat} : ∀ (as : List Value) (i : Nat) (q : Nat × Value), q ∈ zi_lp a0 σ i (zi_la as) → q ∈ lv_args i (as.map (zi_con a0 σ))
  | [], i, q, h => by simp [zi_la, zi_lp] at h
  | v :: t, i, q, h => by
    cases v <;>
      · simp only [zi_la, zi_lp, List.mem_cons] at h
        simp only [List.map_cons, lv_args, zi_con, Value.category, List.mem_cons]
        rcases h with h | h
        · exact Or.inl h
        · exact Or.inr (zi_la_mem t _ q h)
theorem zi_fit_len {a0 : Nat} {σ : Nat → Nat} : ∀ (as : List Value) (n : Nat), zi_fit as n = true → (lg_sl (as.map (zi_con a0 σ))).length ≤ n
  | [], n, _ => by simp [lg_sl]
  | v :: t, n, h => by
    have key : (lg_sl ((v :: t).map (zi_con a0 σ))).length = v.category + (lg_sl (t.map (zi_con a0 σ))).length := by
      cases v <;> simp [lg_sl, zi_con, Value.category] <;> omega
    rw [key]
    cases v with
    | long x =>
      match n, h with
      | n + 2, h => simp only [zi_fit] at h; have := zi_fit_len (a0 := a0) (σ := σ) t n h; simp only [Value.category]; omega
      | 1, h => simp [zi_fit] at h
      | 0, h => simp [zi_fit] at h
    | double x =>
      match n, h with
      | n + 2, h => simp only [zi_fit] at h; have := zi_fit_len (a0 := a0) (σ := σ) t n h; simp only [Value.category]; omega
      | 1, h => simp [zi_fit] at h
      | 0, h => simp [zi_fit] at h
    | int x =>
      cases n with
      | zero => simp [zi_fit] at h
      | succ n => simp only [zi_fit] at h; have := zi_fit_len (a0 := a0) (σ := σ) t n h; simp only [Value.category]; omega
    | float x =>
      cases n with
      | zero => simp [zi_fit] at h
      | succ n => simp only [zi_fit] at h; have := zi_fit_len (a0 := a0) (σ := σ) t n h; simp only [Value.category]; omega
    | null =>
      cases n with
      | zero => simp [zi_fit] at h
      | succ n => simp only [zi_fit] at h; have := zi_fit_len (a0 := a0) (σ := σ) t n h; simp only [Value.category]; omega
    | ref x =>
      cases n with
      | zero => simp [zi_fit] at h
      | succ n => simp only [zi_fit] at h; have := zi_fit_len (a0 := a0) (σ := σ) t n h; simp only [Value.category]; omega
    | retAddr x =>
      cases n with
      | zero => simp [zi_fit] at h
      | succ n => simp only [zi_fit] at h; have := zi_fit_len (a0 := a0) (σ := σ) t n h; simp only [Value.category]; omega
theorem zi_sh_sum (a0 : Nat) (σ : Nat → Nat) (st : List Value) (h : zi_sh st = true) : ((st.map (zi_con a0 σ)).map fun v => v.category).sum ≤ 8 := by
  have hc : ∀ v : Value, v.category ≤ 2 := fun v => by cases v <;> simp [Value.category]
  have h0 : st.length ≤ 4 := by
    match st, h with
    | [], _ => simp
    | [_], _ => simp
    | [_, _], _ => simp
    | [_, _, _], _ => simp
    | [_, _, _, _], _ => simp
  have key : ∀ l : List Value, ((l.map (zi_con a0 σ)).map fun v => v.category).sum ≤ 2 * l.length := by
    intro l
    induction l with
    | nil => simp
    | cons a t ih => simp only [List.map_cons, List.sum_cons, List.length_cons]; have := hc (zi_con a0 σ a); omega
  have := key st
  omega
theorem zi_len_sum (a0 : Nat) (σ : Nat → Nat) (st : List Value) (h0 : st.length ≤ 4) : ((st.map (zi_con a0 σ)).map fun v => v.category).sum ≤ 8 := by
  have hc : ∀ v : Value, v.category ≤ 2 := fun v => by cases v <;> simp [Value.category]
  have key : ∀ l : List Value, ((l.map (zi_con a0 σ)).map fun v => v.category).sum ≤ 2 * l.length := by
    intro l
    induction l with
    | nil => simp
    | cons a t ih => simp only [List.map_cons, List.sum_cons, List.length_cons]; have := hc (zi_con a0 σ a); omega
  have := key st
  omega
theorem zi_pop_eq : ∀ (n : Nat) (acc st as rest : List Value), zi_pop n acc st = some (as, rest) → acc.reverse ++ st = as.reverse ++ rest
  | 0, acc, st, as, rest, h => by
    simp only [zi_pop, Option.some.injEq, Prod.mk.injEq] at h
    rw [h.1, h.2]
  | n + 1, acc, [], as, rest, h => by simp [zi_pop] at h
  | n + 1, acc, v :: st, as, rest, h => by
    simp only [zi_pop] at h
    have := zi_pop_eq n (v :: acc) st as rest h
    rw [← this]
    simp
theorem zi_pop_len : ∀ (n : Nat) (acc st as rest : List Value), zi_pop n acc st = some (as, rest) → as.length = n + acc.length
  | 0, acc, st, as, rest, h => by
    simp only [zi_pop, Option.some.injEq, Prod.mk.injEq] at h
    rw [h.1]; omega
  | n + 1, acc, [], as, rest, h => by simp [zi_pop] at h
  | n + 1, acc, v :: st, as, rest, h => by
    simp only [zi_pop] at h
    have := zi_pop_len n (v :: acc) st as rest h
    simp only [List.length_cons] at this
    omega
