/-! ints by their numbers: a road to omega; memory that agrees -/
theorem zt_nI (a : Nat) : (nI a).toInt = ((a : Int) + 2147483648) % 4294967296 - 2147483648 := by
  show (Int32.ofNat a).toInt = _
  rw [Int32.toInt_ofNat']
  rw [Int.bmod_def]
  simp only [Int32.size]
  omega
theorem zt_add (x y : Int32) : (x + y).toInt = (x.toInt + y.toInt + 2147483648) % 4294967296 - 2147483648 := by
  rw [Int32.toInt_add, Int.bmod_def]
  omega
theorem zt_sub (x y : Int32) : (x - y).toInt = (x.toInt - y.toInt + 2147483648) % 4294967296 - 2147483648 := by
  rw [Int32.toInt_sub, Int.bmod_def]
  omega
theorem zt_neg (x : Int32) : (-x).toInt = (-x.toInt + 2147483648) % 4294967296 - 2147483648 := by
  rw [Int32.toInt_neg, Int.bmod_def]
  omega
theorem zt_ran (x : Int32) : -2147483648 ≤ x.toInt ∧ x.toInt < 2147483648 := ⟨Int32.le_toInt x, Int32.toInt_lt x⟩
theorem zt_eq (x y : Int32) : x = y ↔ x.toInt = y.toInt := ⟨fun h => by rw [h], fun h => Int32.toInt_inj.mp h⟩
theorem zl_0 : (0 : Int32).toInt = 0 := rfl
theorem zl_1 : (1 : Int32).toInt = 1 := rfl
theorem zl_2 : (2 : Int32).toInt = 2 := rfl
theorem zl_3 : (3 : Int32).toInt = 3 := rfl
theorem zl_4 : (4 : Int32).toInt = 4 := rfl
theorem zl_5 : (5 : Int32).toInt = 5 := rfl
theorem zl_6 : (6 : Int32).toInt = 6 := rfl
theorem zl_7 : (7 : Int32).toInt = 7 := rfl
theorem zl_8 : (8 : Int32).toInt = 8 := rfl
theorem zl_9 : (9 : Int32).toInt = 9 := rfl
theorem zl_10 : (10 : Int32).toInt = 10 := rfl
theorem zl_16 : (16 : Int32).toInt = 16 := rfl
theorem zl_20 : (20 : Int32).toInt = 20 := rfl
theorem zl_30 : (30 : Int32).toInt = 30 := rfl
theorem zl_60 : (60 : Int32).toInt = 60 := rfl
theorem zl_1080 : (1080 : Int32).toInt = 1080 := rfl
theorem zl_m1 : (-1 : Int32).toInt = -1 := rfl
theorem zl_m2 : (-2 : Int32).toInt = -2 := rfl
theorem zl_m9 : (-9 : Int32).toInt = -9 := rfl
/-- an index within, by its number -/
theorem zv_of {i : Int32} {n : Nat} (h0 : 0 ≤ i.toInt) (h1 : i.toInt < n) : zi_vin i n = true := by
  simp only [zi_vin, Bool.and_eq_true, decide_eq_true_eq]
  refine ⟨fun h => ?_, ?_⟩
  · rw [Int32.lt_iff_toInt_lt, zl_0] at h
    omega
  · show i.toInt.toNat < n
    omega
theorem zv_nI {a n : Nat} (h : a < n) (hn : n ≤ 2147483648) : zi_vin (nI a) n = true := zv_of (by rw [zt_nI]; omega) (by rw [zt_nI]; omega)
theorem zv_inv {i : Int32} {n : Nat} (h : zi_vin i n = true) : 0 ≤ i.toInt ∧ i.toInt < n := by
  simp only [zi_vin, Bool.and_eq_true, decide_eq_true_eq] at h
  have h1 : i.toInt.toNat < n := h.2
  have h2 : ¬ i.toInt < 0 := fun q => h.1 (by rw [Int32.lt_iff_toInt_lt, zl_0]; exact q)
  omega
theorem zv_clamp {i : Int32} {a : Nat} (h : i.toInt = a) : i.toNatClampNeg = a := by
  show i.toInt.toNat = a
  omega
theorem zt_of {i : Int32} {a : Nat} (h : i.toInt = a) : i = nI a := by
  rw [zt_eq, zt_nI]
  have := zt_ran i
  omega
/-- one int of the memory has changed -/
theorem zu_up (I : Nat → Nat → Int32) (i k : Nat) (v : Int32) (a b : Nat) : zi_up I i k v a b = if a = i then (if b = k then v else I i b) else I a b := by
  unfold zi_up zi_row va_up
  by_cases h : a = i
  · rw [if_pos h, if_pos h]
  · rw [if_neg h, if_neg h]
theorem zu_row {α : Type} (I : Nat → Nat → α) (i : Nat) (r : Nat → α) (a : Nat) : zi_row I i r a = if a = i then r else I a := rfl
theorem zu_up_ne {α : Type} (I : Nat → Nat → α) {i k a : Nat} {v : α} (h : a ≠ i) : zi_up I i k v a = I a := zi_up_ne I k v h
/-- the rows from lo to hi - 1 alone may differ -/
def zAg (lo hi : Nat) (I I' : Nat → Nat → Int32) : Prop := ∀ a, a < lo ∨ hi ≤ a → I' a = I a
theorem zAg.rf {lo hi : Nat} {I : Nat → Nat → Int32} : zAg lo hi I I := fun _ _ => rfl
theorem zAg.tr {lo hi : Nat} {I I' I'' : Nat → Nat → Int32} (h : zAg lo hi I I') (h' : zAg lo hi I' I'') : zAg lo hi I I'' := fun a ha => (h' a ha).trans (h a ha)
theorem zAg.up {lo hi : Nat} {I I' : Nat → Nat → Int32} (h : zAg lo hi I I') {i k : Nat} {v : Int32} (hi1 : lo ≤ i) (hi2 : i < hi) : zAg lo hi I (zi_up I' i k v) := fun a ha => by
  rw [zu_up_ne I' (by omega)]
  exact h a ha
theorem zAg.row {lo hi : Nat} {I I' : Nat → Nat → Int32} (h : zAg lo hi I I') {i : Nat} {r : Nat → Int32} (hi1 : lo ≤ i) (hi2 : i < hi) : zAg lo hi I (zi_row I' i r) := fun a ha => by
  rw [zi_row_ne I' r (by omega)]
  exact h a ha
theorem zAg.wide {lo hi lo' hi' : Nat} {I I' : Nat → Nat → Int32} (h : zAg lo hi I I') (h1 : lo' ≤ lo) (h2 : hi ≤ hi') : zAg lo' hi' I I' := fun a ha => h a (by omega)
theorem zK_if {K : Option Value → zi_M → Prop} {M : zi_M} (p : Prop) (hp : Decidable p) (x y : Int32) : (@ite _ p hp (K (some (.int x)) M) (K (some (.int y)) M)) = K (some (.int (@ite _ p hp x y))) M := by
  by_cases h : p
  · rw [if_pos h, if_pos h]
  · rw [if_neg h, if_neg h]
