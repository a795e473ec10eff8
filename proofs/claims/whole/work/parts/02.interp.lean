/-! AN INTERPRETER of the bytecode that is used here, over a memory of numbered cells (zi_). Part 04 shows it sound for the machine. -/
/-- an instruction with what it links: number of a block, slot, class, callee ..; a number; a list of numbers -/
abbrev zi_I : Type := Instr × Nat × Nat × Int32 × List Nat
/-- memory: how many cells; each one's kind (0 object, 1 ints, 2 longs, 3 references), class, length; ints; longs; references (cells by number) -/
abbrev zi_M : Type := Nat × (Nat → Nat × Nat × Nat) × (Nat → Nat → Int32) × (Nat → Nat → Int64) × (Nat → Nat → Option Nat)
abbrev zi_L : Type := List (Option Value)
/-- what comes next: the next instruction; a block; the end; a call -/
abbrev zi_N : Type := (zi_L × List Value × zi_M) ⊕ (Nat × List Value) ⊕ (Option Value) ⊕ (Nat × List Value × List Value)
def zi_get : zi_L → Nat → Option Value
  | [], _ => none
  | x :: _, 0 => x
  | _ :: t, n + 1 => zi_get t n
def zi_put : zi_L → Nat → Option Value → zi_L
  | [], 0, v => [v]
  | [], n + 1, v => none :: zi_put [] n v
  | _ :: t, 0, v => v :: t
  | x :: t, n + 1, v => x :: zi_put t n v
def zi_isL : Option Value → Bool
  | some (.long _) => true
  | some (.double _) => true
  | _ => false
def zi_kl (lv : zi_L) : Nat → zi_L
  | 0 => lv
  | i + 1 => if zi_isL (zi_get lv i) = true then zi_put lv i none else lv
def zi_st1 (lv : zi_L) (i : Nat) (v : Value) : zi_L := zi_put (zi_kl lv i) i (some v)
def zi_st2 (lv : zi_L) (i : Nat) (v : Value) : zi_L := zi_put (zi_put (zi_kl lv i) i (some v)) (i + 1) none
def zi_row {α : Type} (h : Nat → Nat → α) (i : Nat) (r : Nat → α) : Nat → Nat → α := fun a => if a = i then r else h a
def zi_up {α : Type} (h : Nat → Nat → α) (i k : Nat) (v : α) : Nat → Nat → α := zi_row h i (va_up (h i) k v)
def zi_vin (i : Int32) (n : Nat) : Bool := decide (¬ i < 0) && decide (i.toNatClampNeg < n)
def zi_U (j : Nat) : Int32 := match j with
  | 2 => 2
  | 3 => 0
  | _ => 1
def zi_K (j : Nat) : Int32 := match j with
  | 1 => 2
  | 4 => 0
  | _ => 1
/-- arrays that nobody writes: the class's two tables, the script -/
def zi_ro (sc : Nat × (Nat → Int32)) : Nat → Nat × (Nat → Int32)
  | 0 => (5, zi_U)
  | 1 => (5, zi_K)
  | _ => sc
def zi_nI (lv : zi_L) (st : List Value) (M : zi_M) : Option zi_N := some (.inl (lv, st, M))
def zi_ldi (lv : zi_L) (n : Nat) (st : List Value) (M : zi_M) : Option zi_N := match zi_get lv n with
  | some (.int x) => some (.inl (lv, .int x :: st, M))
  | _ => none
def zi_ldl (lv : zi_L) (n : Nat) (st : List Value) (M : zi_M) : Option zi_N := match zi_get lv n with
  | some (.long x) => some (.inl (lv, .long x :: st, M))
  | _ => none
def zi_lda (lv : zi_L) (n : Nat) (st : List Value) (M : zi_M) : Option zi_N := match zi_get lv n with
  | some (.ref x) => some (.inl (lv, .ref x :: st, M))
  | some (.float x) => some (.inl (lv, .float x :: st, M))
  | some .null => some (.inl (lv, .null :: st, M))
  | _ => none
def zi_sti (lv : zi_L) (n : Nat) (st : List Value) (M : zi_M) : Option zi_N := match st with
  | .int x :: st => some (.inl (zi_st1 lv n (.int x), st, M))
  | _ => none
def zi_stl (lv : zi_L) (n : Nat) (st : List Value) (M : zi_M) : Option zi_N := match st with
  | .long x :: st => some (.inl (zi_st2 lv n (.long x), st, M))
  | _ => none
def zi_sta (lv : zi_L) (n : Nat) (st : List Value) (M : zi_M) : Option zi_N := match st with
  | .ref x :: st => some (.inl (zi_st1 lv n (.ref x), st, M))
  | .float x :: st => some (.inl (zi_st1 lv n (.float x), st, M))
  | .null :: st => some (.inl (zi_st1 lv n .null, st, M))
  | _ => none
def zi_inc (lv : zi_L) (n : Nat) (v : Int32) (st : List Value) (M : zi_M) : Option zi_N := match zi_get lv n with
  | some (.int x) => some (.inl (zi_st1 lv n (.int (x + v)), st, M))
  | _ => none
def zi_b2 (f : Int32 → Int32 → Int32) (lv : zi_L) (st : List Value) (M : zi_M) : Option zi_N := match st with
  | .int y :: .int x :: st => some (.inl (lv, .int (f x y) :: st, M))
  | _ => none
def zi_d2 (f : Int32 → Int32 → Int32) (lv : zi_L) (st : List Value) (M : zi_M) : Option zi_N := match st with
  | .int y :: .int x :: st => if ¬ y = 0 then some (.inl (lv, .int (f x y) :: st, M)) else none
  | _ => none
def zi_l2 (f : Int64 → Int64 → Int64) (lv : zi_L) (st : List Value) (M : zi_M) : Option zi_N := match st with
  | .long y :: .long x :: st => some (.inl (lv, .long (f x y) :: st, M))
  | _ => none
def zi_dl2 (f : Int64 → Int64 → Int64) (lv : zi_L) (st : List Value) (M : zi_M) : Option zi_N := match st with
  | .long y :: .long x :: st => if ¬ y = 0 then some (.inl (lv, .long (f x y) :: st, M)) else none
  | _ => none
def zi_lc (lv : zi_L) (st : List Value) (M : zi_M) : Option zi_N := match st with
  | .long y :: .long x :: st => some (.inl (lv, .int (lg_cmp x y) :: st, M))
  | _ => none
def zi_u1 (f : Int32 → Value) (lv : zi_L) (st : List Value) (M : zi_M) : Option zi_N := match st with
  | .int x :: st => some (.inl (lv, f x :: st, M))
  | _ => none
def zi_pp (lv : zi_L) (st : List Value) (M : zi_M) : Option zi_N := match st with
  | .int _ :: st => some (.inl (lv, st, M))
  | _ => none
def zi_dup (lv : zi_L) (st : List Value) (M : zi_M) : Option zi_N := match st with
  | .int x :: st => some (.inl (lv, .int x :: .int x :: st, M))
  | .ref x :: st => some (.inl (lv, .ref x :: .ref x :: st, M))
  | _ => none
def zi_dup2 (lv : zi_L) (st : List Value) (M : zi_M) : Option zi_N := match st with
  | .int x :: .ref y :: st => some (.inl (lv, .int x :: .ref y :: .int x :: .ref y :: st, M))
  | _ => none
/-- a field's value by its tag: 2 a reference, else an int -/
def zi_fv (tag : Nat) (x : Int32) (r : Option Nat) : Value := match tag with
  | 2 => va_rf r
  | _ => .int x
/-- getfield: slot, tag, [class, its number of fields, ..] -/
def zi_gf (slot tag : Nat) (l : List Nat) (lv : zi_L) (st : List Value) (M : zi_M) : Option zi_N := match st with
  | .ref id :: st => if M.2.1 id = (0, l.getD 0 0, l.getD 1 0) then some (.inl (lv, zi_fv tag (M.2.2.1 id slot) (M.2.2.2.2 id slot) :: st, M)) else none
  | _ => none
/-- putfield: tag 0 an int, 1 a boolean, 2 a reference -/
def zi_pf (slot tag : Nat) (l : List Nat) (lv : zi_L) (st : List Value) (M : zi_M) : Option zi_N := match tag, st with
  | 0, .int x :: .ref id :: st => if M.2.1 id = (0, l.getD 0 0, l.getD 1 0) then some (.inl (lv, st, M.1, M.2.1, zi_up M.2.2.1 id slot x, M.2.2.2.1, M.2.2.2.2)) else none
  | 1, .int x :: .ref id :: st => if M.2.1 id = (0, l.getD 0 0, l.getD 1 0) ∧ (x = 0 ∨ x = 1) then some (.inl (lv, st, M.1, M.2.1, zi_up M.2.2.1 id slot x, M.2.2.2.1, M.2.2.2.2)) else none
  | 2, .ref x :: .ref id :: st => if M.2.1 id = (0, l.getD 0 0, l.getD 1 0) then some (.inl (lv, st, M.1, M.2.1, M.2.2.1, M.2.2.2.1, zi_up M.2.2.2.2 id slot (some x))) else none
  | _, _ => none
def zi_ial (sc : Nat × (Nat → Int32)) (lv : zi_L) (st : List Value) (M : zi_M) : Option zi_N := match st with
  | .int j :: .ref id :: st => if (M.2.1 id).1 = 1 ∧ (M.2.1 id).2.1 = 0 ∧ zi_vin j (M.2.1 id).2.2 = true then some (.inl (lv, .int (M.2.2.1 id j.toNatClampNeg) :: st, M)) else none
  | .int j :: .float q :: st => if zi_vin j (zi_ro sc q.toNat).1 = true then some (.inl (lv, .int ((zi_ro sc q.toNat).2 j.toNatClampNeg) :: st, M)) else none
  | _ => none
def zi_ias (lv : zi_L) (st : List Value) (M : zi_M) : Option zi_N := match st with
  | .int x :: .int j :: .ref id :: st => if (M.2.1 id).1 = 1 ∧ (M.2.1 id).2.1 = 0 ∧ zi_vin j (M.2.1 id).2.2 = true then some (.inl (lv, st, M.1, M.2.1, zi_up M.2.2.1 id j.toNatClampNeg x, M.2.2.2.1, M.2.2.2.2)) else none
  | _ => none
def zi_lal (lv : zi_L) (st : List Value) (M : zi_M) : Option zi_N := match st with
  | .int j :: .ref id :: st => if (M.2.1 id).1 = 2 ∧ (M.2.1 id).2.1 = 1 ∧ zi_vin j (M.2.1 id).2.2 = true then some (.inl (lv, .long (M.2.2.2.1 id j.toNatClampNeg) :: st, M)) else none
  | _ => none
def zi_las (lv : zi_L) (st : List Value) (M : zi_M) : Option zi_N := match st with
  | .long x :: .int j :: .ref id :: st => if (M.2.1 id).1 = 2 ∧ (M.2.1 id).2.1 = 1 ∧ zi_vin j (M.2.1 id).2.2 = true then some (.inl (lv, st, M.1, M.2.1, M.2.2.1, zi_up M.2.2.2.1 id j.toNatClampNeg x, M.2.2.2.2)) else none
  | _ => none
def zi_aal (lv : zi_L) (st : List Value) (M : zi_M) : Option zi_N := match st with
  | .int j :: .ref id :: st => if (M.2.1 id).1 = 3 ∧ (2 ≤ (M.2.1 id).2.1 ∧ (M.2.1 id).2.1 < 6) ∧ zi_vin j (M.2.1 id).2.2 = true then some (.inl (lv, va_rf (M.2.2.2.2 id j.toNatClampNeg) :: st, M)) else none
  | _ => none
/-- aastore of an object into an array of its class: array types 2 (sheets, class 5), 3 (rounds, class 4) -/
def zi_aas (lv : zi_L) (st : List Value) (M : zi_M) : Option zi_N := match st with
  | .ref x :: .int j :: .ref id :: st => if (M.2.1 id).1 = 3 ∧ (((M.2.1 id).2.1 = 2 ∧ M.2.1 x = (0, 5, 4)) ∨ ((M.2.1 id).2.1 = 3 ∧ M.2.1 x = (0, 4, 6))) ∧ zi_vin j (M.2.1 id).2.2 = true then some (.inl (lv, st, M.1, M.2.1, M.2.2.1, M.2.2.2.1, zi_up M.2.2.2.2 id j.toNatClampNeg (some x))) else none
  | _ => none
def zi_aln (sc : Nat × (Nat → Int32)) (lv : zi_L) (st : List Value) (M : zi_M) : Option zi_N := match st with
  | .ref id :: st => if (1 ≤ (M.2.1 id).1 ∧ (M.2.1 id).1 ≤ 3) ∧ (M.2.1 id).2.1 < 6 then some (.inl (lv, .int (nI (M.2.1 id).2.2) :: st, M)) else none
  | .float q :: st => some (.inl (lv, .int (nI (zi_ro sc q.toNat).1) :: st, M))
  | _ => none
/-- a new cell behind all others -/
def zi_born (t : Nat × Nat × Nat) (M : zi_M) : zi_M := (M.1 + 1, va_up M.2.1 M.1 t, zi_row M.2.2.1 M.1 (fun _ => 0), zi_row M.2.2.2.1 M.1 (fun _ => 0), zi_row M.2.2.2.2 M.1 (fun _ => none))
/-- k new arrays behind all others -/
def zi_rows (t : Nat × Nat × Nat) : Nat → zi_M → zi_M
  | 0, M => M
  | k + 1, M => zi_born t (zi_rows t k M)
def zi_new (ci nf : Nat) (lv : zi_L) (st : List Value) (M : zi_M) : Option zi_N := some (.inl (lv, .ref M.1 :: st, zi_born (0, ci, nf) M))
def zi_na (kd ty : Nat) (lv : zi_L) (st : List Value) (M : zi_M) : Option zi_N := match st with
  | .int n :: st => if ¬ n < 0 ∧ n.toNatClampNeg ≤ 1000 then some (.inl (lv, .ref M.1 :: st, zi_born (kd, ty, n.toNatClampNeg) M)) else none
  | _ => none
/-- new T[n][k]: type of the outer array, kind and type of the inner ones -/
def zi_mna (ty kd ty2 : Nat) (lv : zi_L) (st : List Value) (M : zi_M) : Option zi_N := match st with
  | .int k :: .int n :: st => if (¬ n < 0 ∧ n.toNatClampNeg ≤ 1000) ∧ (¬ k < 0 ∧ k.toNatClampNeg ≤ 1000) then
      some (.inl (lv, .ref M.1 :: st, (zi_rows (kd, ty2, k.toNatClampNeg) n.toNatClampNeg (zi_born (3, ty, n.toNatClampNeg) M)).1, (zi_rows (kd, ty2, k.toNatClampNeg) n.toNatClampNeg (zi_born (3, ty, n.toNatClampNeg) M)).2.1,
        (zi_rows (kd, ty2, k.toNatClampNeg) n.toNatClampNeg (zi_born (3, ty, n.toNatClampNeg) M)).2.2.1, (zi_rows (kd, ty2, k.toNatClampNeg) n.toNatClampNeg (zi_born (3, ty, n.toNatClampNeg) M)).2.2.2.1,
        zi_row (zi_rows (kd, ty2, k.toNatClampNeg) n.toNatClampNeg (zi_born (3, ty, n.toNatClampNeg) M)).2.2.2.2 M.1 (fun j => if j < n.toNatClampNeg then some (M.1 + 1 + j) else none))) else none
  | _ => none
def zi_obj (lv : zi_L) (st : List Value) (M : zi_M) : Option zi_N := match st with
  | .ref _ :: st => if st.length ≤ 4 then some (.inl (lv, st, M)) else none
  | _ => none
def zi_cp (lv : zi_L) (st : List Value) (M : zi_M) : Option zi_N := match st with
  | .int n :: .int dp :: .ref y :: .int sp :: .ref x :: st => if ((M.2.1 x).1 = 1 ∧ (M.2.1 x).2.1 = 0 ∧ (M.2.1 y).1 = 1 ∧ (M.2.1 y).2.1 = 0) ∧ (¬ sp < 0 ∧ ¬ dp < 0 ∧ ¬ n < 0) ∧ (sp.toNatClampNeg + n.toNatClampNeg ≤ (M.2.1 x).2.2 ∧ dp.toNatClampNeg + n.toNatClampNeg ≤ (M.2.1 y).2.2) ∧ st.length ≤ 4 then
      some (.inl (lv, st, M.1, M.2.1, zi_row M.2.2.1 y (va_cpy (M.2.2.1 x) (M.2.2.1 y) sp.toNatClampNeg dp.toNatClampNeg n.toNatClampNeg), M.2.2.2.1, M.2.2.2.2)) else none
  | _ => none
def zi_cmp (c : ClassFile.Cond) (x y : Int32) : Bool := match c with
  | .eq => decide (x = y)
  | .ne => decide (¬ x = y)
  | .lt => decide (x < y)
  | .ge => decide (y ≤ x)
  | .gt => decide (y < x)
  | .le => decide (x ≤ y)
def zi_if (c : ClassFile.Cond) (b : Nat) (lv : zi_L) (st : List Value) (M : zi_M) : Option zi_N := match st with
  | .int x :: st => if zi_cmp c x 0 = true then some (.inr (.inl (b, st))) else some (.inl (lv, st, M))
  | _ => none
def zi_ic (c : ClassFile.Cond) (b : Nat) (lv : zi_L) (st : List Value) (M : zi_M) : Option zi_N := match st with
  | .int y :: .int x :: st => if zi_cmp c x y = true then some (.inr (.inl (b, st))) else some (.inl (lv, st, M))
  | _ => none
def zi_nul (b : Nat) (lv : zi_L) (st : List Value) (M : zi_M) : Option zi_N := match st with
  | .null :: st => some (.inr (.inl (b, st)))
  | .ref _ :: st => some (.inl (lv, st, M))
  | _ => none
def zi_nnl (b : Nat) (lv : zi_L) (st : List Value) (M : zi_M) : Option zi_N := match st with
  | .null :: st => some (.inl (lv, st, M))
  | .ref _ :: st => some (.inr (.inl (b, st)))
  | _ => none
def zi_tb (key : Int32) (d : Nat) (x : Int32) : List Nat → Nat
  | [] => d
  | t :: ts => if x = key then t else zi_tb (key + 1) d x ts
def zi_lk (d : Nat) (x : Int32) : List (Int × Int) → List Nat → Nat
  | q :: ps, t :: ts => if x = Int32.ofInt q.1 then t else zi_lk d x ps ts
  | _, _ => d
def zi_sw (f : Int32 → Nat) (st : List Value) : Option zi_N := match st with
  | .int x :: st => some (.inr (.inl (f x, st)))
  | _ => none
def zi_ri (z : Nat) (st : List Value) : Option zi_N := match st with
  | [.int x] => if z = 1 then (if x = 0 ∨ x = 1 then some (.inr (.inr (.inl (some (.int x))))) else none) else some (.inr (.inr (.inl (some (.int x)))))
  | _ => none
def zi_rl (st : List Value) : Option zi_N := match st with
  | [.long x] => some (.inr (.inr (.inl (some (.long x)))))
  | _ => none
def zi_ra (st : List Value) : Option zi_N := match st with
  | [.ref x] => some (.inr (.inr (.inl (some (.ref x)))))
  | [.null] => some (.inr (.inr (.inl (some .null))))
  | _ => none
def zi_rv (st : List Value) : Option zi_N := match st with
  | [] => some (.inr (.inr (.inl none)))
  | _ => none
/-- n values off the stack, in the order in which they were pushed -/
def zi_pop : Nat → List Value → List Value → Option (List Value × List Value)
  | 0, acc, st => some (acc, st)
  | n + 1, acc, v :: st => zi_pop n (v :: acc) st
  | _ + 1, _, [] => none
def zi_sh (st : List Value) : Bool := match st with
  | _ :: _ :: _ :: _ :: _ :: _ => false
  | _ => true
/-- values that n locals hold -/
def zi_fit : List Value → Nat → Bool
  | [], _ => true
  | .long _ :: t, n + 2 => zi_fit t n
  | .double _ :: t, n + 2 => zi_fit t n
  | .long _ :: _, _ => false
  | .double _ :: _, _ => false
  | _ :: t, n + 1 => zi_fit t n
  | _, _ => false
/-- a call without an object: l0 is how many locals the callee has -/
def zi_iv (j n : Nat) (l : List Nat) (st : List Value) : Option zi_N := match zi_pop n [] st with
  | some (as, st) => if zi_sh st = true ∧ zi_fit as (l.getD 0 0) = true then some (.inr (.inr (.inr (j, as, st)))) else none
  | none => none
/-- a call on an object of class l0 with l1 fields; l2 is how many locals the callee has -/
def zi_ivr (j n : Nat) (l : List Nat) (st : List Value) (M : zi_M) : Option zi_N := match zi_pop n [] st with
  | some (.ref id :: as, st) => if M.2.1 id = (0, l.getD 0 0, l.getD 1 0) ∧ zi_sh st = true ∧ zi_fit (.ref id :: as) (l.getD 2 0) = true then some (.inr (.inr (.inr (j, .ref id :: as, st)))) else none
  | _ => none
def zi_nx (sc : Nat × (Nat → Int32)) (i : zi_I) (lv : zi_L) (st : List Value) (M : zi_M) : Option zi_N :=
  match i.1 with
  | .nop => some (.inr (.inl (i.2.1, st)))
  | .iconst _ => some (.inl (lv, .int i.2.2.2.1 :: st, M))
  | .bipush _ => some (.inl (lv, .int i.2.2.2.1 :: st, M))
  | .sipush _ => some (.inl (lv, .int i.2.2.2.1 :: st, M))
  | .lconst n => some (.inl (lv, .long (Int64.ofNat n) :: st, M))
  | .ldc2_w _ => some (.inl (lv, .long (-9223372036854775808) :: st, M))
  | .aconst_null => some (.inl (lv, .null :: st, M))
  | .iload n => zi_ldi lv n st M
  | .iload_n n => zi_ldi lv n.val st M
  | .lload n => zi_ldl lv n st M
  | .lload_n n => zi_ldl lv n.val st M
  | .aload n => zi_lda lv n st M
  | .aload_n n => zi_lda lv n.val st M
  | .istore n => zi_sti lv n st M
  | .istore_n n => zi_sti lv n.val st M
  | .lstore n => zi_stl lv n st M
  | .lstore_n n => zi_stl lv n.val st M
  | .astore n => zi_sta lv n st M
  | .astore_n n => zi_sta lv n.val st M
  | .iinc n _ => zi_inc lv n i.2.2.2.1 st M
  | .iadd => zi_b2 (fun x y => x + y) lv st M
  | .isub => zi_b2 (fun x y => x - y) lv st M
  | .imul => zi_b2 (fun x y => x * y) lv st M
  | .iand => zi_b2 (fun x y => x &&& y) lv st M
  | .ior => zi_b2 (fun x y => x ||| y) lv st M
  | .ishl => zi_b2 (fun x y => x <<< (y &&& 31)) lv st M
  | .ishr => zi_b2 (fun x y => x >>> (y &&& 31)) lv st M
  | .idiv => zi_d2 (fun x y => x / y) lv st M
  | .irem => zi_d2 (fun x y => x - x / y * y) lv st M
  | .ladd => zi_l2 (fun x y => x + y) lv st M
  | .ldiv => zi_dl2 (fun x y => x / y) lv st M
  | .lrem => zi_dl2 (fun x y => x - x / y * y) lv st M
  | .lcmp => zi_lc lv st M
  | .i2l => zi_u1 (fun x => .long x.toInt64) lv st M
  | .i2b => zi_u1 (fun x => .int x.toInt8.toInt32) lv st M
  | .i2s => zi_u1 (fun x => .int x.toInt16.toInt32) lv st M
  | .pop => zi_pp lv st M
  | .dup => zi_dup lv st M
  | .dup2 => zi_dup2 lv st M
  | .getfield _ => zi_gf i.2.1 i.2.2.1 i.2.2.2.2 lv st M
  | .putfield _ => zi_pf i.2.1 i.2.2.1 i.2.2.2.2 lv st M
  | .getstatic _ => some (.inl (lv, .float (UInt32.ofNat i.2.1) :: st, M))
  | .iaload => zi_ial sc lv st M
  | .iastore => zi_ias lv st M
  | .laload => zi_lal lv st M
  | .lastore => zi_las lv st M
  | .aaload => zi_aal lv st M
  | .aastore => zi_aas lv st M
  | .arraylength => zi_aln sc lv st M
  | .new _ => zi_new i.2.1 i.2.2.1 lv st M
  | .newarray _ => zi_na i.2.1 i.2.2.1 lv st M
  | .anewarray _ => zi_na 3 i.2.1 lv st M
  | .multianewarray _ _ => zi_mna i.2.1 (i.2.2.2.2.getD 0 0) i.2.2.1 lv st M
  | .goto _ => some (.inr (.inl (i.2.1, st)))
  | .ifCond c _ => zi_if c i.2.1 lv st M
  | .if_icmp c _ => zi_ic c i.2.1 lv st M
  | .ifnull _ => zi_nul i.2.1 lv st M
  | .ifnonnull _ => zi_nnl i.2.1 lv st M
  | .tableswitch _ _ _ _ => zi_sw (fun x => zi_tb i.2.2.2.1 i.2.1 x i.2.2.2.2) st
  | .lookupswitch _ ps => zi_sw (fun x => zi_lk i.2.1 x ps.toList i.2.2.2.2) st
  | .ireturn => zi_ri i.2.1 st
  | .lreturn => zi_rl st
  | .areturn => zi_ra st
  | .return_ => zi_rv st
  | .invokestatic _ => if i.2.1 = 9998 then zi_cp lv st M else zi_iv i.2.1 i.2.2.1 i.2.2.2.2 st
  | .invokevirtual _ => zi_ivr i.2.1 i.2.2.1 i.2.2.2.2 st M
  | .invokespecial _ => if i.2.1 = 9999 then zi_obj lv st M else zi_ivr i.2.1 i.2.2.1 i.2.2.2.2 st M
  | _ => none
/-- how many cells and slots an instruction makes -/
def zi_al (i : zi_I) (st : List Value) : Nat × Nat := match i.1 with
  | .new _ => (1, i.2.2.1)
  | .newarray _ => match st with
    | .int n :: _ => (1, n.toNatClampNeg)
    | _ => (0, 0)
  | .anewarray _ => match st with
    | .int n :: _ => (1, n.toNatClampNeg)
    | _ => (0, 0)
  | .multianewarray _ _ => match st with
    | .int k :: .int n :: _ => (1 + n.toNatClampNeg, n.toNatClampNeg + n.toNatClampNeg * k.toNatClampNeg)
    | _ => (0, 0)
  | _ => (0, 0)
/-- a callee's locals -/
def zi_la : List Value → zi_L
  | [] => []
  | .long x :: t => some (.long x) :: none :: zi_la t
  | .double x :: t => some (.double x) :: none :: zi_la t
  | v :: t => some v :: zi_la t
/-- a method: name, code, locals, what it returns, its frames, locals' words, cells, slots; its blocks, where each begins -/
abbrev zi_D : Type := (MethodName × ByteArray × Nat × Option FieldType) × (Nat × Nat × Nat × Nat) × List (List zi_I) × List Nat
abbrev zi_mc (T : Nat → zi_D) (k : Nat) : Nat := (T k).2.1.2.2.1
abbrev zi_ms (T : Nat → zi_D) (k : Nat) : Nat := (T k).2.1.2.2.2
abbrev zi_bk (T : Nat → zi_D) (k b : Nat) : List zi_I := (T k).2.2.1.getD b []
def zi_ex (T : Nat → zi_D) (sc : Nat × (Nat → Int32)) : Nat → Nat → List zi_I → zi_L → List Value → zi_M → Nat → Nat → Option (Option Value × zi_M)
  | 0, _, _, _, _, _, _, _ => none
  | _ + 1, _, [], _, _, _, _, _ => none
  | n + 1, k, i :: is, lv, st, M, cu, su => match zi_nx sc i lv st M with
    | none => none
    | some (.inl (lv', st', M')) => if cu + (zi_al i st).1 ≤ zi_mc T k ∧ su + (zi_al i st).2 ≤ zi_ms T k then zi_ex T sc n k is lv' st' M' (cu + (zi_al i st).1) (su + (zi_al i st).2) else none
    | some (.inr (.inl (b, st'))) => zi_ex T sc n k (zi_bk T k b) lv st' M cu su
    | some (.inr (.inr (.inl r))) => some (r, M)
    | some (.inr (.inr (.inr (j, as, st')))) => if cu + zi_mc T j ≤ zi_mc T k ∧ su + zi_ms T j ≤ zi_ms T k then
        match zi_ex T sc n j (zi_bk T j 0) (zi_la as) [] M 0 0 with
        | none => none
        | some (r, M') => zi_ex T sc n k is lv (r.toList ++ st') M' (cu + zi_mc T j) (su + zi_ms T j)
      else none
