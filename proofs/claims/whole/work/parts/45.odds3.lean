/-! odds on both sides -/
theorem zand1 (x : Int32) : x &&& 1 = 0 ∨ x &&& 1 = 1 := by
  have h : (x &&& 1).toBitVec.toNat = x.toBitVec.toNat % 2 := by
    show (x.toBitVec &&& (1 : BitVec 32)).toNat = _
    rw [BitVec.toNat_and]
    exact Nat.and_one_is_mod _
  rcases Nat.mod_two_eq_zero_or_one x.toBitVec.toNat with c | c
  · left
    apply Int32.toBitVec_inj.mp
    apply BitVec.eq_of_toNat_eq
    rw [h, c]
    rfl
  · right
    apply Int32.toBitVec_inj.mp
    apply BitVec.eq_of_toNat_eq
    rw [h, c]
    rfl
/-- whether loop v's ROOTS hold k -/
def zbt (v : Int32) (k : Nat) : Nat := if v >>> (nI k &&& 31) &&& 1 = 1 then 1 else 0
theorem zbt_nI (v : Int32) (k : Nat) : v >>> (nI k &&& 31) &&& 1 = nI (zbt v k) := by
  unfold zbt
  rcases zand1 (v >>> (nI k &&& 31)) with c | c
  · rw [if_neg (by rw [c]; decide), c]; rfl
  · rw [if_pos c, c]; rfl
def zth (f : Nat → Int32) (k : Nat) : Nat → Nat
  | 0 => 0
  | c + 1 => zth f k c + zbt (f c) k
theorem zth_le (f : Nat → Int32) (k : Nat) : ∀ c, zth f k c ≤ c
  | 0 => Nat.le_refl _
  | c + 1 => by have := zth_le f k c; simp only [zth, zbt]; split <;> omega
theorem zth_cong {f g : Nat → Int32} {k : Nat} : ∀ c, (∀ i, i < c → f i = g i) → zth f k c = zth g k c
  | 0, _ => rfl
  | c + 1, h => by simp only [zth]; rw [zth_cong c (fun i hi => h i (by omega)), h c (by omega)]
