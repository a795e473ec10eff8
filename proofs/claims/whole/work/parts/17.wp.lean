/-! reckoning with the interpreter: what must hold ahead of a stretch of instructions (zi_wp) -/
theorem zx_nop (sc : Nat × (Nat → Int32))  (a b : Nat) (c : Int32) (l : List Nat) (lv : zi_L) (st : List Value) (M : zi_M) : zi_nx sc (.nop, a, b, c, l) lv st M = some (.inr (.inl (a, st))) := rfl
theorem zx_iconst (sc : Nat × (Nat → Int32)) (n : Int) (a b : Nat) (c : Int32) (l : List Nat) (lv : zi_L) (st : List Value) (M : zi_M) : zi_nx sc (.iconst n, a, b, c, l) lv st M = some (.inl (lv, .int c :: st, M)) := rfl
theorem zx_bipush (sc : Nat × (Nat → Int32)) (n : Int) (a b : Nat) (c : Int32) (l : List Nat) (lv : zi_L) (st : List Value) (M : zi_M) : zi_nx sc (.bipush n, a, b, c, l) lv st M = some (.inl (lv, .int c :: st, M)) := rfl
theorem zx_sipush (sc : Nat × (Nat → Int32)) (n : Int) (a b : Nat) (c : Int32) (l : List Nat) (lv : zi_L) (st : List Value) (M : zi_M) : zi_nx sc (.sipush n, a, b, c, l) lv st M = some (.inl (lv, .int c :: st, M)) := rfl
theorem zx_lconst (sc : Nat × (Nat → Int32)) (n : Fin 2) (a b : Nat) (c : Int32) (l : List Nat) (lv : zi_L) (st : List Value) (M : zi_M) : zi_nx sc (.lconst n, a, b, c, l) lv st M = some (.inl (lv, .long (Int64.ofNat n) :: st, M)) := rfl
theorem zx_ldc2_w (sc : Nat × (Nat → Int32)) (n : Nat) (a b : Nat) (c : Int32) (l : List Nat) (lv : zi_L) (st : List Value) (M : zi_M) : zi_nx sc (.ldc2_w n, a, b, c, l) lv st M = some (.inl (lv, .long (-9223372036854775808) :: st, M)) := rfl
theorem zx_aconst_null (sc : Nat × (Nat → Int32))  (a b : Nat) (c : Int32) (l : List Nat) (lv : zi_L) (st : List Value) (M : zi_M) : zi_nx sc (.aconst_null, a, b, c, l) lv st M = some (.inl (lv, .null :: st, M)) := rfl
theorem zx_iload (sc : Nat × (Nat → Int32)) (n : Nat) (a b : Nat) (c : Int32) (l : List Nat) (lv : zi_L) (st : List Value) (M : zi_M) : zi_nx sc (.iload n, a, b, c, l) lv st M = zi_ldi lv n st M := rfl
theorem zx_iload_n (sc : Nat × (Nat → Int32)) (n : Fin 4) (a b : Nat) (c : Int32) (l : List Nat) (lv : zi_L) (st : List Value) (M : zi_M) : zi_nx sc (.iload_n n, a, b, c, l) lv st M = zi_ldi lv n.val st M := rfl
theorem zx_lload (sc : Nat × (Nat → Int32)) (n : Nat) (a b : Nat) (c : Int32) (l : List Nat) (lv : zi_L) (st : List Value) (M : zi_M) : zi_nx sc (.lload n, a, b, c, l) lv st M = zi_ldl lv n st M := rfl
theorem zx_lload_n (sc : Nat × (Nat → Int32)) (n : Fin 4) (a b : Nat) (c : Int32) (l : List Nat) (lv : zi_L) (st : List Value) (M : zi_M) : zi_nx sc (.lload_n n, a, b, c, l) lv st M = zi_ldl lv n.val st M := rfl
theorem zx_aload (sc : Nat × (Nat → Int32)) (n : Nat) (a b : Nat) (c : Int32) (l : List Nat) (lv : zi_L) (st : List Value) (M : zi_M) : zi_nx sc (.aload n, a, b, c, l) lv st M = zi_lda lv n st M := rfl
theorem zx_aload_n (sc : Nat × (Nat → Int32)) (n : Fin 4) (a b : Nat) (c : Int32) (l : List Nat) (lv : zi_L) (st : List Value) (M : zi_M) : zi_nx sc (.aload_n n, a, b, c, l) lv st M = zi_lda lv n.val st M := rfl
theorem zx_istore (sc : Nat × (Nat → Int32)) (n : Nat) (a b : Nat) (c : Int32) (l : List Nat) (lv : zi_L) (st : List Value) (M : zi_M) : zi_nx sc (.istore n, a, b, c, l) lv st M = zi_sti lv n st M := rfl
theorem zx_istore_n (sc : Nat × (Nat → Int32)) (n : Fin 4) (a b : Nat) (c : Int32) (l : List Nat) (lv : zi_L) (st : List Value) (M : zi_M) : zi_nx sc (.istore_n n, a, b, c, l) lv st M = zi_sti lv n.val st M := rfl
theorem zx_lstore (sc : Nat × (Nat → Int32)) (n : Nat) (a b : Nat) (c : Int32) (l : List Nat) (lv : zi_L) (st : List Value) (M : zi_M) : zi_nx sc (.lstore n, a, b, c, l) lv st M = zi_stl lv n st M := rfl
theorem zx_lstore_n (sc : Nat × (Nat → Int32)) (n : Fin 4) (a b : Nat) (c : Int32) (l : List Nat) (lv : zi_L) (st : List Value) (M : zi_M) : zi_nx sc (.lstore_n n, a, b, c, l) lv st M = zi_stl lv n.val st M := rfl
theorem zx_astore (sc : Nat × (Nat → Int32)) (n : Nat) (a b : Nat) (c : Int32) (l : List Nat) (lv : zi_L) (st : List Value) (M : zi_M) : zi_nx sc (.astore n, a, b, c, l) lv st M = zi_sta lv n st M := rfl
theorem zx_astore_n (sc : Nat × (Nat → Int32)) (n : Fin 4) (a b : Nat) (c : Int32) (l : List Nat) (lv : zi_L) (st : List Value) (M : zi_M) : zi_nx sc (.astore_n n, a, b, c, l) lv st M = zi_sta lv n.val st M := rfl
theorem zx_iinc (sc : Nat × (Nat → Int32)) (n : Nat) (d : Int) (a b : Nat) (c : Int32) (l : List Nat) (lv : zi_L) (st : List Value) (M : zi_M) : zi_nx sc (.iinc n d, a, b, c, l) lv st M = zi_inc lv n c st M := rfl
theorem zx_iadd (sc : Nat × (Nat → Int32))  (a b : Nat) (c : Int32) (l : List Nat) (lv : zi_L) (st : List Value) (M : zi_M) : zi_nx sc (.iadd, a, b, c, l) lv st M = zi_b2 (fun x y => x + y) lv st M := rfl
theorem zx_isub (sc : Nat × (Nat → Int32))  (a b : Nat) (c : Int32) (l : List Nat) (lv : zi_L) (st : List Value) (M : zi_M) : zi_nx sc (.isub, a, b, c, l) lv st M = zi_b2 (fun x y => x - y) lv st M := rfl
theorem zx_imul (sc : Nat × (Nat → Int32))  (a b : Nat) (c : Int32) (l : List Nat) (lv : zi_L) (st : List Value) (M : zi_M) : zi_nx sc (.imul, a, b, c, l) lv st M = zi_b2 (fun x y => x * y) lv st M := rfl
theorem zx_iand (sc : Nat × (Nat → Int32))  (a b : Nat) (c : Int32) (l : List Nat) (lv : zi_L) (st : List Value) (M : zi_M) : zi_nx sc (.iand, a, b, c, l) lv st M = zi_b2 (fun x y => x &&& y) lv st M := rfl
theorem zx_ior (sc : Nat × (Nat → Int32))  (a b : Nat) (c : Int32) (l : List Nat) (lv : zi_L) (st : List Value) (M : zi_M) : zi_nx sc (.ior, a, b, c, l) lv st M = zi_b2 (fun x y => x ||| y) lv st M := rfl
theorem zx_ishl (sc : Nat × (Nat → Int32))  (a b : Nat) (c : Int32) (l : List Nat) (lv : zi_L) (st : List Value) (M : zi_M) : zi_nx sc (.ishl, a, b, c, l) lv st M = zi_b2 (fun x y => x <<< (y &&& 31)) lv st M := rfl
theorem zx_ishr (sc : Nat × (Nat → Int32))  (a b : Nat) (c : Int32) (l : List Nat) (lv : zi_L) (st : List Value) (M : zi_M) : zi_nx sc (.ishr, a, b, c, l) lv st M = zi_b2 (fun x y => x >>> (y &&& 31)) lv st M := rfl
theorem zx_idiv (sc : Nat × (Nat → Int32))  (a b : Nat) (c : Int32) (l : List Nat) (lv : zi_L) (st : List Value) (M : zi_M) : zi_nx sc (.idiv, a, b, c, l) lv st M = zi_d2 (fun x y => x / y) lv st M := rfl
theorem zx_irem (sc : Nat × (Nat → Int32))  (a b : Nat) (c : Int32) (l : List Nat) (lv : zi_L) (st : List Value) (M : zi_M) : zi_nx sc (.irem, a, b, c, l) lv st M = zi_d2 (fun x y => x - x / y * y) lv st M := rfl
theorem zx_ladd (sc : Nat × (Nat → Int32))  (a b : Nat) (c : Int32) (l : List Nat) (lv : zi_L) (st : List Value) (M : zi_M) : zi_nx sc (.ladd, a, b, c, l) lv st M = zi_l2 (fun x y => x + y) lv st M := rfl
theorem zx_ldiv (sc : Nat × (Nat → Int32))  (a b : Nat) (c : Int32) (l : List Nat) (lv : zi_L) (st : List Value) (M : zi_M) : zi_nx sc (.ldiv, a, b, c, l) lv st M = zi_dl2 (fun x y => x / y) lv st M := rfl
theorem zx_lrem (sc : Nat × (Nat → Int32))  (a b : Nat) (c : Int32) (l : List Nat) (lv : zi_L) (st : List Value) (M : zi_M) : zi_nx sc (.lrem, a, b, c, l) lv st M = zi_dl2 (fun x y => x - x / y * y) lv st M := rfl
theorem zx_lcmp (sc : Nat × (Nat → Int32))  (a b : Nat) (c : Int32) (l : List Nat) (lv : zi_L) (st : List Value) (M : zi_M) : zi_nx sc (.lcmp, a, b, c, l) lv st M = zi_lc lv st M := rfl
theorem zx_i2l (sc : Nat × (Nat → Int32))  (a b : Nat) (c : Int32) (l : List Nat) (lv : zi_L) (st : List Value) (M : zi_M) : zi_nx sc (.i2l, a, b, c, l) lv st M = zi_u1 (fun x => .long x.toInt64) lv st M := rfl
theorem zx_i2b (sc : Nat × (Nat → Int32))  (a b : Nat) (c : Int32) (l : List Nat) (lv : zi_L) (st : List Value) (M : zi_M) : zi_nx sc (.i2b, a, b, c, l) lv st M = zi_u1 (fun x => .int x.toInt8.toInt32) lv st M := rfl
theorem zx_i2s (sc : Nat × (Nat → Int32))  (a b : Nat) (c : Int32) (l : List Nat) (lv : zi_L) (st : List Value) (M : zi_M) : zi_nx sc (.i2s, a, b, c, l) lv st M = zi_u1 (fun x => .int x.toInt16.toInt32) lv st M := rfl
theorem zx_pop (sc : Nat × (Nat → Int32))  (a b : Nat) (c : Int32) (l : List Nat) (lv : zi_L) (st : List Value) (M : zi_M) : zi_nx sc (.pop, a, b, c, l) lv st M = zi_pp lv st M := rfl
theorem zx_dup (sc : Nat × (Nat → Int32))  (a b : Nat) (c : Int32) (l : List Nat) (lv : zi_L) (st : List Value) (M : zi_M) : zi_nx sc (.dup, a, b, c, l) lv st M = zi_dup lv st M := rfl
theorem zx_dup2 (sc : Nat × (Nat → Int32))  (a b : Nat) (c : Int32) (l : List Nat) (lv : zi_L) (st : List Value) (M : zi_M) : zi_nx sc (.dup2, a, b, c, l) lv st M = zi_dup2 lv st M := rfl
theorem zx_getfield (sc : Nat × (Nat → Int32)) (n : Nat) (a b : Nat) (c : Int32) (l : List Nat) (lv : zi_L) (st : List Value) (M : zi_M) : zi_nx sc (.getfield n, a, b, c, l) lv st M = zi_gf a b l lv st M := rfl
theorem zx_putfield (sc : Nat × (Nat → Int32)) (n : Nat) (a b : Nat) (c : Int32) (l : List Nat) (lv : zi_L) (st : List Value) (M : zi_M) : zi_nx sc (.putfield n, a, b, c, l) lv st M = zi_pf a b l lv st M := rfl
theorem zx_getstatic (sc : Nat × (Nat → Int32)) (n : Nat) (a b : Nat) (c : Int32) (l : List Nat) (lv : zi_L) (st : List Value) (M : zi_M) : zi_nx sc (.getstatic n, a, b, c, l) lv st M = some (.inl (lv, .float (UInt32.ofNat a) :: st, M)) := rfl
theorem zx_iaload (sc : Nat × (Nat → Int32))  (a b : Nat) (c : Int32) (l : List Nat) (lv : zi_L) (st : List Value) (M : zi_M) : zi_nx sc (.iaload, a, b, c, l) lv st M = zi_ial sc lv st M := rfl
theorem zx_iastore (sc : Nat × (Nat → Int32))  (a b : Nat) (c : Int32) (l : List Nat) (lv : zi_L) (st : List Value) (M : zi_M) : zi_nx sc (.iastore, a, b, c, l) lv st M = zi_ias lv st M := rfl
theorem zx_laload (sc : Nat × (Nat → Int32))  (a b : Nat) (c : Int32) (l : List Nat) (lv : zi_L) (st : List Value) (M : zi_M) : zi_nx sc (.laload, a, b, c, l) lv st M = zi_lal lv st M := rfl
theorem zx_lastore (sc : Nat × (Nat → Int32))  (a b : Nat) (c : Int32) (l : List Nat) (lv : zi_L) (st : List Value) (M : zi_M) : zi_nx sc (.lastore, a, b, c, l) lv st M = zi_las lv st M := rfl
theorem zx_aaload (sc : Nat × (Nat → Int32))  (a b : Nat) (c : Int32) (l : List Nat) (lv : zi_L) (st : List Value) (M : zi_M) : zi_nx sc (.aaload, a, b, c, l) lv st M = zi_aal lv st M := rfl
theorem zx_arraylength (sc : Nat × (Nat → Int32))  (a b : Nat) (c : Int32) (l : List Nat) (lv : zi_L) (st : List Value) (M : zi_M) : zi_nx sc (.arraylength, a, b, c, l) lv st M = zi_aln sc lv st M := rfl
theorem zx_goto (sc : Nat × (Nat → Int32)) (d : Int) (a b : Nat) (c : Int32) (l : List Nat) (lv : zi_L) (st : List Value) (M : zi_M) : zi_nx sc (.goto d, a, b, c, l) lv st M = some (.inr (.inl (a, st))) := rfl
theorem zx_ifCond (sc : Nat × (Nat → Int32)) (e : ClassFile.Cond) (d : Int) (a b : Nat) (c : Int32) (l : List Nat) (lv : zi_L) (st : List Value) (M : zi_M) : zi_nx sc (.ifCond e d, a, b, c, l) lv st M = zi_if e a lv st M := rfl
theorem zx_if_icmp (sc : Nat × (Nat → Int32)) (e : ClassFile.Cond) (d : Int) (a b : Nat) (c : Int32) (l : List Nat) (lv : zi_L) (st : List Value) (M : zi_M) : zi_nx sc (.if_icmp e d, a, b, c, l) lv st M = zi_ic e a lv st M := rfl
theorem zx_ifnull (sc : Nat × (Nat → Int32)) (d : Int) (a b : Nat) (c : Int32) (l : List Nat) (lv : zi_L) (st : List Value) (M : zi_M) : zi_nx sc (.ifnull d, a, b, c, l) lv st M = zi_nul a lv st M := rfl
theorem zx_ifnonnull (sc : Nat × (Nat → Int32)) (d : Int) (a b : Nat) (c : Int32) (l : List Nat) (lv : zi_L) (st : List Value) (M : zi_M) : zi_nx sc (.ifnonnull d, a, b, c, l) lv st M = zi_nnl a lv st M := rfl
theorem zx_tableswitch (sc : Nat × (Nat → Int32)) (d lo hi : Int) (o : Array Int) (a b : Nat) (c : Int32) (l : List Nat) (lv : zi_L) (st : List Value) (M : zi_M) : zi_nx sc (.tableswitch d lo hi o, a, b, c, l) lv st M = zi_sw (fun x => zi_tb c a x l) st := rfl
theorem zx_lookupswitch (sc : Nat × (Nat → Int32)) (d : Int) (ps : Array (Int × Int)) (a b : Nat) (c : Int32) (l : List Nat) (lv : zi_L) (st : List Value) (M : zi_M) : zi_nx sc (.lookupswitch d ps, a, b, c, l) lv st M = zi_sw (fun x => zi_lk a x ps.toList l) st := rfl
theorem zx_ireturn (sc : Nat × (Nat → Int32))  (a b : Nat) (c : Int32) (l : List Nat) (lv : zi_L) (st : List Value) (M : zi_M) : zi_nx sc (.ireturn, a, b, c, l) lv st M = zi_ri a st := rfl
theorem zx_lreturn (sc : Nat × (Nat → Int32))  (a b : Nat) (c : Int32) (l : List Nat) (lv : zi_L) (st : List Value) (M : zi_M) : zi_nx sc (.lreturn, a, b, c, l) lv st M = zi_rl st := rfl
theorem zx_areturn (sc : Nat × (Nat → Int32))  (a b : Nat) (c : Int32) (l : List Nat) (lv : zi_L) (st : List Value) (M : zi_M) : zi_nx sc (.areturn, a, b, c, l) lv st M = zi_ra st := rfl
theorem zx_return_ (sc : Nat × (Nat → Int32))  (a b : Nat) (c : Int32) (l : List Nat) (lv : zi_L) (st : List Value) (M : zi_M) : zi_nx sc (.return_, a, b, c, l) lv st M = zi_rv st := rfl
theorem zx_invokestatic (sc : Nat × (Nat → Int32)) (n : Nat) (a b : Nat) (c : Int32) (l : List Nat) (lv : zi_L) (st : List Value) (M : zi_M) : zi_nx sc (.invokestatic n, a, b, c, l) lv st M = if a = 9998 then zi_cp lv st M else zi_iv a b l st := rfl
theorem zx_invokevirtual (sc : Nat × (Nat → Int32)) (n : Nat) (a b : Nat) (c : Int32) (l : List Nat) (lv : zi_L) (st : List Value) (M : zi_M) : zi_nx sc (.invokevirtual n, a, b, c, l) lv st M = zi_ivr a b l st M := rfl
/-- more steps allowed, the same end -/
theorem zi_ex_up {T : Nat → zi_D} {sc : Nat × (Nat → Int32)} : ∀ (n : Nat) (k : Nat) (is : List zi_I) (lv : zi_L) (st : List Value) (M : zi_M) (cu su : Nat) (q : Option Value × zi_M), zi_ex T sc n k is lv st M cu su = some q → zi_ex T sc (n + 1) k is lv st M cu su = some q
  | 0, k, is, lv, st, M, cu, su, q, h => by simp [zi_ex] at h
  | n + 1, k, [], lv, st, M, cu, su, q, h => by simp [zi_ex] at h
  | n + 1, k, i :: is, lv, st, M, cu, su, q, h => by
    unfold zi_ex at h ⊢
    cases hn : zi_nx sc i lv st M with
    | none => rw [hn] at h; cases h
    | some z =>
      rw [hn] at h
      rcases z with ⟨lv', st', M2⟩ | ⟨b, st'⟩ | r2 | ⟨j, as, st'⟩
      · dsimp only at h ⊢
        by_cases hg : cu + (zi_al i st).1 ≤ zi_mc T k ∧ su + (zi_al i st).2 ≤ zi_ms T k
        · rw [if_pos hg] at h ⊢
          exact zi_ex_up n k is lv' st' M2 _ _ q h
        · rw [if_neg hg] at h
          cases h
      · exact zi_ex_up n k _ lv st' M cu su q h
      · exact h
      · dsimp only at h ⊢
        by_cases hg : cu + zi_mc T j ≤ zi_mc T k ∧ su + zi_ms T j ≤ zi_ms T k
        · rw [if_pos hg] at h ⊢
          cases hc : zi_ex T sc n j (zi_bk T j 0) (zi_la as) [] M 0 0 with
          | none => rw [hc] at h; cases h
          | some q2 =>
            rw [hc] at h
            rw [zi_ex_up n j _ _ _ M 0 0 q2 hc]
            exact zi_ex_up n k is lv _ _ _ _ q h
        · rw [if_neg hg] at h
          cases h
theorem zi_ex_le {T : Nat → zi_D} {sc : Nat × (Nat → Int32)} {n n' k : Nat} {is : List zi_I} {lv : zi_L} {st : List Value} {M : zi_M} {cu su : Nat} {q : Option Value × zi_M} (h : zi_ex T sc n k is lv st M cu su = some q) (hn : n ≤ n') : zi_ex T sc n' k is lv st M cu su = some q := by
  induction hn with
  | refl => exact h
  | step _ ih => exact zi_ex_up _ _ _ _ _ _ _ _ _ ih
def zi_G (sc : Nat × (Nat → Int32)) (cu su k : Nat) (is : List zi_I) (lv : zi_L) (st : List Value) (M : zi_M) (Q : Option Value → zi_M → Prop) : Prop := ∃ n r M', zi_ex zi_T sc n k is lv st M cu su = some (r, M') ∧ Q r M'
/-- from a block of a method on -/
def zi_B (sc : Nat × (Nat → Int32)) (cu su k b : Nat) (lv : zi_L) (st : List Value) (M : zi_M) (Q : Option Value → zi_M → Prop) : Prop := zi_G sc cu su k (zi_bk zi_T k b) lv st M Q
/-- behind a call -/
def zi_cc (go : zi_L → List Value → zi_M → Prop) (lv : zi_L) (st : List Value) : Option Value → zi_M → Prop := fun r M => go lv (r.toList ++ st) M
def zi_wK (sc : Nat × (Nat → Int32)) (cu su k : Nat) (Q : Option Value → zi_M → Prop) (go : zi_L → List Value → zi_M → Prop) (lv : zi_L) (M : zi_M) : Option zi_N → Prop
  | none => False
  | some (.inl (lv', st', M')) => go lv' st' M'
  | some (.inr (.inl (b, st'))) => zi_B sc cu su k b lv st' M Q
  | some (.inr (.inr (.inl r))) => Q r M
  | some (.inr (.inr (.inr (j, as, st')))) => zi_B sc 0 0 j 0 (zi_la as) [] M (zi_cc go lv st')
def zi_wp (sc : Nat × (Nat → Int32)) (cu su k : Nat) (Q : Option Value → zi_M → Prop) : List zi_I → zi_L → List Value → zi_M → Prop
  | [] => fun _ _ _ => False
  | i :: is => fun lv st M => zi_wK sc cu su k Q (zi_wp sc cu su k Q is) lv M (zi_nx sc i lv st M)
theorem zi_wp_c (sc : Nat × (Nat → Int32)) (cu su k : Nat) (Q : Option Value → zi_M → Prop) (i : zi_I) (is : List zi_I) (lv : zi_L) (st : List Value) (M : zi_M) : zi_wp sc cu su k Q (i :: is) lv st M = zi_wK sc cu su k Q (zi_wp sc cu su k Q is) lv M (zi_nx sc i lv st M) := rfl
theorem zi_wK_if (sc : Nat × (Nat → Int32)) (cu su k : Nat) (Q : Option Value → zi_M → Prop) (go : zi_L → List Value → zi_M → Prop) (lv : zi_L) (M : zi_M) (p : Prop) (hp : Decidable p) (x y : Option zi_N) : zi_wK sc cu su k Q go lv M (@ite _ p hp x y) = @ite _ p hp (zi_wK sc cu su k Q go lv M x) (zi_wK sc cu su k Q go lv M y) := by
  by_cases h : p
  · rw [if_pos h, if_pos h]
  · rw [if_neg h, if_neg h]
theorem zi_wK_go (sc : Nat × (Nat → Int32)) (cu su k : Nat) (Q : Option Value → zi_M → Prop) (go : zi_L → List Value → zi_M → Prop) (lv lv' : zi_L) (st' : List Value) (M M' : zi_M) : zi_wK sc cu su k Q go lv M (some (.inl (lv', st', M'))) = go lv' st' M' := rfl
theorem zi_wK_no (sc : Nat × (Nat → Int32)) (cu su k : Nat) (Q : Option Value → zi_M → Prop) (go : zi_L → List Value → zi_M → Prop) (lv : zi_L) (M : zi_M) : zi_wK sc cu su k Q go lv M none = False := rfl
theorem zi_wK_b (sc : Nat × (Nat → Int32)) (cu su k : Nat) (Q : Option Value → zi_M → Prop) (go : zi_L → List Value → zi_M → Prop) (lv : zi_L) (M : zi_M) (b : Nat) (st' : List Value) : zi_wK sc cu su k Q go lv M (some (.inr (.inl (b, st')))) = zi_B sc cu su k b lv st' M Q := rfl
theorem zi_wK_r (sc : Nat × (Nat → Int32)) (cu su k : Nat) (Q : Option Value → zi_M → Prop) (go : zi_L → List Value → zi_M → Prop) (lv : zi_L) (M : zi_M) (r : Option Value) : zi_wK sc cu su k Q go lv M (some (.inr (.inr (.inl r)))) = Q r M := rfl
theorem zi_wK_c (sc : Nat × (Nat → Int32)) (cu su k : Nat) (Q : Option Value → zi_M → Prop) (go : zi_L → List Value → zi_M → Prop) (lv : zi_L) (M : zi_M) (j : Nat) (as st' : List Value) : zi_wK sc cu su k Q go lv M (some (.inr (.inr (.inr (j, as, st'))))) = zi_B sc 0 0 j 0 (zi_la as) [] M (zi_cc go lv st') := rfl
theorem zi_cc_i (go : zi_L → List Value → zi_M → Prop) (lv : zi_L) (st : List Value) (v : Value) (M : zi_M) : zi_cc go lv st (some v) M = go lv (v :: st) M := rfl
theorem zi_cc_n (go : zi_L → List Value → zi_M → Prop) (lv : zi_L) (st : List Value) (M : zi_M) : zi_cc go lv st none M = go lv st M := rfl
theorem zi_ifF (p : Prop) (hp : Decidable p) (x : Prop) : @ite _ p hp x False = (p ∧ x) := by
  by_cases h : p
  · rw [if_pos h]; simp [h]
  · rw [if_neg h]; simp [h]
def zi_isA (i : zi_I) : Bool := match i.1 with
  | .new _ => true
  | .newarray _ => true
  | .anewarray _ => true
  | .multianewarray _ _ => true
  | .invokestatic _ => decide (i.2.1 < 10)
  | .invokevirtual _ => decide (i.2.1 < 10)
  | .invokespecial _ => decide (i.2.1 < 10)
  | _ => false
theorem zi_al_0 {i : zi_I} {st : List Value} (h : zi_isA i = false) : zi_al i st = (0, 0) := by
  obtain ⟨op, a, b, c, l⟩ := i
  cases op <;> first | rfl | (simp [zi_isA] at h)
theorem zi_nx_j {sc : Nat × (Nat → Int32)} {i : zi_I} {lv : zi_L} {st : List Value} {M : zi_M} {j : Nat} {as st' : List Value} (h : zi_isA i = false) (hn : zi_nx sc i lv st M = some (.inr (.inr (.inr (j, as, st'))))) : 10 ≤ j := by
  obtain ⟨op, ia, ib, ic, il⟩ := i
  cases op with
  | invokestatic idx =>
    simp only [zi_nx] at hn
    simp only [zi_isA, decide_eq_false_iff_not] at h
    by_cases h9 : ia = 9998
    · rw [if_pos h9] at hn
      unfold zi_cp at hn
      split at hn
      · split at hn <;> cases hn
      · cases hn
    · rw [if_neg h9] at hn
      obtain ⟨as, r, -, -, -, hz⟩ := zi_iv_inv hn
      cases hz
      omega
  | invokevirtual idx =>
    simp only [zi_nx] at hn
    simp only [zi_isA, decide_eq_false_iff_not] at h
    obtain ⟨id, as, r, -, -, -, -, hz⟩ := zi_ivr_inv hn
    cases hz
    omega
  | invokespecial idx =>
    simp only [zi_nx] at hn
    simp only [zi_isA, decide_eq_false_iff_not] at h
    by_cases h9 : ia = 9999
    · rw [if_pos h9] at hn
      unfold zi_obj at hn
      split at hn
      · split at hn <;> cases hn
      · cases hn
    · rw [if_neg h9] at hn
      obtain ⟨id, as, r, -, -, -, -, hz⟩ := zi_ivr_inv hn
      cases hz
      omega
  | ifCond d off =>
    simp only [zi_nx] at hn
    obtain ⟨x, r, rfl, hz⟩ := zi_if_inv hn
    split at hz <;> cases hz
  | if_icmp d off =>
    simp only [zi_nx] at hn
    obtain ⟨x, y, r, rfl, hz⟩ := zi_ic_inv hn
    split at hz <;> cases hz
  | ifnull off => simp only [zi_nx] at hn; rcases zi_nul_inv hn with ⟨r, rfl, hz⟩ | ⟨x, r, rfl, hz⟩ <;> cases hz
  | ifnonnull off => simp only [zi_nx] at hn; rcases zi_nnl_inv hn with ⟨r, rfl, hz⟩ | ⟨x, r, rfl, hz⟩ <;> cases hz
  | tableswitch d lo hi offs => simp only [zi_nx] at hn; obtain ⟨x, r, rfl, hz⟩ := zi_sw_inv hn; cases hz
  | lookupswitch d ps => simp only [zi_nx] at hn; obtain ⟨x, r, rfl, hz⟩ := zi_sw_inv hn; cases hz
  | ireturn => simp only [zi_nx] at hn; obtain ⟨x, -, -, hz⟩ := zi_ri_inv hn; cases hz
  | lreturn => simp only [zi_nx] at hn; obtain ⟨x, -, hz⟩ := zi_rl_inv hn; cases hz
  | areturn => simp only [zi_nx] at hn; obtain ⟨x, -, -, hz⟩ := zi_ra_inv hn; cases hz
  | return_ => simp only [zi_nx] at hn; obtain ⟨-, hz⟩ := zi_rv_inv hn; cases hz
  | _ =>
    simp only [zi_nx] at hn
    first
      | cases hn
      | (unfold zi_ldi at hn; split at hn <;> cases hn)
      | (unfold zi_ldl at hn; split at hn <;> cases hn)
      | (unfold zi_lda at hn; split at hn <;> cases hn)
      | (unfold zi_sti at hn; split at hn <;> cases hn)
      | (unfold zi_stl at hn; split at hn <;> cases hn)
      | (unfold zi_sta at hn; split at hn <;> cases hn)
      | (unfold zi_inc at hn; split at hn <;> cases hn)
      | (unfold zi_b2 at hn; split at hn <;> cases hn)
      | (unfold zi_l2 at hn; split at hn <;> cases hn)
      | (unfold zi_lc at hn; split at hn <;> cases hn)
      | (unfold zi_u1 at hn; split at hn <;> cases hn)
      | (unfold zi_pp at hn; split at hn <;> cases hn)
      | (unfold zi_dup at hn; split at hn <;> cases hn)
      | (unfold zi_dup2 at hn; split at hn <;> cases hn)
      | (unfold zi_new at hn; cases hn)
      | (unfold zi_d2 at hn; split at hn <;> (try split at hn) <;> cases hn)
      | (unfold zi_dl2 at hn; split at hn <;> (try split at hn) <;> cases hn)
      | (unfold zi_gf at hn; split at hn <;> (try split at hn) <;> cases hn)
      | (unfold zi_pf at hn; split at hn <;> (try split at hn) <;> cases hn)
      | (unfold zi_ial at hn; split at hn <;> (try split at hn) <;> cases hn)
      | (unfold zi_ias at hn; split at hn <;> (try split at hn) <;> cases hn)
      | (unfold zi_lal at hn; split at hn <;> (try split at hn) <;> cases hn)
      | (unfold zi_las at hn; split at hn <;> (try split at hn) <;> cases hn)
      | (unfold zi_aal at hn; split at hn <;> (try split at hn) <;> cases hn)
      | (unfold zi_aas at hn; split at hn <;> (try split at hn) <;> cases hn)
      | (unfold zi_aln at hn; split at hn <;> (try split at hn) <;> cases hn)
      | (unfold zi_na at hn; split at hn <;> (try split at hn) <;> cases hn)
      | (unfold zi_mna at hn; split at hn <;> (try split at hn) <;> cases hn)
theorem zi_far10_l : (List.range 174).all (fun k => decide (10 ≤ k → zi_mc zi_T k = 0 ∧ zi_ms zi_T k = 0)) = true := by decide +kernel
theorem zi_far10 {j : Nat} (h : 10 ≤ j) : zi_mc zi_T j = 0 ∧ zi_ms zi_T j = 0 := by
  by_cases h2 : j < 174
  · have := List.all_eq_true.mp zi_far10_l j (List.mem_range.mpr h2)
    simp only [decide_eq_true_eq] at this
    exact this h
  · have e := zi_T_far (k := j) (by omega)
    unfold zi_mc zi_ms
    rw [e]
    exact ⟨rfl, rfl⟩
theorem zi_wp_G {sc : Nat × (Nat → Int32)} {cu su k : Nat} {Q : Option Value → zi_M → Prop} (hcu : cu ≤ zi_mc zi_T k) (hsu : su ≤ zi_ms zi_T k) : ∀ (is : List zi_I) (lv : zi_L) (st : List Value) (M : zi_M), is.all (fun i => !zi_isA i) = true → (zi_wp sc cu su k Q is lv st M ↔ zi_G sc cu su k is lv st M Q)
  | [], lv, st, M, _ => ⟨fun h => absurd h id, fun ⟨n, r, M', h, _⟩ => by cases n <;> simp [zi_ex] at h⟩
  | i :: is, lv, st, M, ha => by
    rw [List.all_cons, Bool.and_eq_true] at ha
    have hia : zi_isA i = false := by simpa using ha.1
    have hal := zi_al_0 (i := i) (st := st) hia
    have key : ∀ n, zi_ex zi_T sc (n + 1) k (i :: is) lv st M cu su = match zi_nx sc i lv st M with
      | none => none
      | some (.inl (lv', st', M')) => zi_ex zi_T sc n k is lv' st' M' cu su
      | some (.inr (.inl (b, st'))) => zi_ex zi_T sc n k (zi_bk zi_T k b) lv st' M cu su
      | some (.inr (.inr (.inl r))) => some (r, M)
      | some (.inr (.inr (.inr (j, as, st')))) => match zi_ex zi_T sc n j (zi_bk zi_T j 0) (zi_la as) [] M 0 0 with
        | none => none
        | some (r, M') => zi_ex zi_T sc n k is lv (r.toList ++ st') M' cu su := by
      intro n
      conv => lhs; unfold zi_ex
      cases hn : zi_nx sc i lv st M with
      | none => rfl
      | some z =>
        rcases z with ⟨lv', st', M2⟩ | ⟨b, st'⟩ | r2 | ⟨j, as, st'⟩
        · dsimp only
          rw [hal, if_pos ⟨hcu, hsu⟩]
          rfl
        · rfl
        · rfl
        · obtain ⟨m1, m2⟩ := zi_far10 (zi_nx_j hia hn)
          dsimp only
          rw [m1, m2, if_pos ⟨hcu, hsu⟩]
          rfl
    rw [zi_wp_c]
    constructor
    · intro h
      cases hn : zi_nx sc i lv st M with
      | none => rw [hn] at h; exact absurd h id
      | some z =>
        rw [hn] at h
        rcases z with ⟨lv', st', M2⟩ | ⟨b, st'⟩ | r2 | ⟨j, as, st'⟩
        · obtain ⟨n, r, M', h1, h2⟩ := (zi_wp_G hcu hsu is lv' st' M2 ha.2).mp h
          exact ⟨n + 1, r, M', by rw [key, hn]; exact h1, h2⟩
        · obtain ⟨n, r, M', h1, h2⟩ := h
          exact ⟨n + 1, r, M', by rw [key, hn]; exact h1, h2⟩
        · exact ⟨1, r2, M, by rw [key, hn], h⟩
        · obtain ⟨n, r, M', h1, h2⟩ := h
          obtain ⟨n2, r2, M2, h3, h4⟩ := (zi_wp_G hcu hsu is lv (r.toList ++ st') M' ha.2).mp h2
          refine ⟨max n n2 + 1, r2, M2, ?_, h4⟩
          rw [key, hn]
          dsimp only
          rw [zi_ex_le h1 (Nat.le_max_left _ _)]
          exact zi_ex_le h3 (Nat.le_max_right _ _)
    · rintro ⟨n, r, M', h1, h2⟩
      cases n with
      | zero => simp [zi_ex] at h1
      | succ n =>
        rw [key] at h1
        cases hn : zi_nx sc i lv st M with
        | none => rw [hn] at h1; cases h1
        | some z =>
          rw [hn] at h1
          rcases z with ⟨lv', st', M2⟩ | ⟨b, st'⟩ | r2 | ⟨j, as, st'⟩
          · exact (zi_wp_G hcu hsu is lv' st' M2 ha.2).mpr ⟨n, r, M', h1, h2⟩
          · exact ⟨n, r, M', h1, h2⟩
          · cases h1
            exact h2
          · dsimp only at h1
            cases hc : zi_ex zi_T sc n j (zi_bk zi_T j 0) (zi_la as) [] M 0 0 with
            | none => rw [hc] at h1; cases h1
            | some q =>
              obtain ⟨r3, M3⟩ := q
              rw [hc] at h1
              exact ⟨n, r3, M3, hc, (zi_wp_G hcu hsu is lv (r3.toList ++ st') M3 ha.2).mpr ⟨n, r, M', h1, h2⟩⟩
/-- a block: its instructions -/
theorem zi_blk {sc : Nat × (Nat → Int32)} {cu su k b : Nat} (is : List zi_I) (e : zi_bk zi_T k b = is) (hc : cu ≤ zi_mc zi_T k ∧ su ≤ zi_ms zi_T k) (ha : is.all (fun i => !zi_isA i) = true) (lv : zi_L) (st : List Value) (M : zi_M) (Q : Option Value → zi_M → Prop) : zi_B sc cu su k b lv st M Q = zi_wp sc cu su k Q is lv st M := by
  unfold zi_B
  rw [e]
  exact propext (zi_wp_G hc.1 hc.2 is lv st M ha).symm
theorem zi_B_if (sc : Nat × (Nat → Int32)) (cu su k : Nat) (p : Prop) (hp : Decidable p) (b1 b2 : Nat) (lv : zi_L) (st : List Value) (M : zi_M) (Q : Option Value → zi_M → Prop) : zi_B sc cu su k (@ite _ p hp b1 b2) lv st M Q = @ite _ p hp (zi_B sc cu su k b1 lv st M Q) (zi_B sc cu su k b2 lv st M Q) := by
  by_cases h : p
  · rw [if_pos h, if_pos h]
  · rw [if_neg h, if_neg h]
theorem zi_B.mono {sc : Nat × (Nat → Int32)} {cu su k b : Nat} {Q Q' : Option Value → zi_M → Prop} {lv : zi_L} {st : List Value} {M : zi_M} (h : zi_B sc cu su k b lv st M Q) (hq : ∀ r M', Q r M' → Q' r M') : zi_B sc cu su k b lv st M Q' := by
  obtain ⟨n, r, M', h1, h2⟩ := h
  exact ⟨n, r, M', h1, hq r M' h2⟩
theorem zq_get0 (x : Option Value) (t : zi_L) : zi_get (x :: t) 0 = x := rfl
theorem zq_getS (x : Option Value) (t : zi_L) (n : Nat) : zi_get (x :: t) (n + 1) = zi_get t n := rfl
theorem zq_getN (n : Nat) : zi_get [] n = none := rfl
theorem zq_put0 (x v : Option Value) (t : zi_L) : zi_put (x :: t) 0 v = v :: t := rfl
theorem zq_putS (x v : Option Value) (t : zi_L) (n : Nat) : zi_put (x :: t) (n + 1) v = x :: zi_put t n v := rfl
theorem zq_putN0 (v : Option Value) : zi_put [] 0 v = [v] := rfl
theorem zq_putNS (v : Option Value) (n : Nat) : zi_put [] (n + 1) v = none :: zi_put [] n v := rfl
theorem zq_kl0 (lv : zi_L) : zi_kl lv 0 = lv := rfl
theorem zq_klS (lv : zi_L) (i : Nat) : zi_kl lv (i + 1) = if zi_isL (zi_get lv i) = true then zi_put lv i none else lv := rfl
theorem zq_Ln : zi_isL none = false := rfl
theorem zq_Li (x : Int32) : zi_isL (some (.int x)) = false := rfl
theorem zq_Lr (x : Nat) : zi_isL (some (.ref x)) = false := rfl
theorem zq_Lf (x : UInt32) : zi_isL (some (.float x)) = false := rfl
theorem zq_Lz : zi_isL (some .null) = false := rfl
theorem zq_Ll (x : Int64) : zi_isL (some (.long x)) = true := rfl
theorem zq_ft0 (n : Nat) : zi_fit [] n = true := rfl
theorem zq_fti (x : Int32) (t : List Value) (n : Nat) : zi_fit (.int x :: t) (n + 1) = zi_fit t n := rfl
theorem zq_ftr (x : Nat) (t : List Value) (n : Nat) : zi_fit (.ref x :: t) (n + 1) = zi_fit t n := rfl
theorem zq_ftz (t : List Value) (n : Nat) : zi_fit (.null :: t) (n + 1) = zi_fit t n := rfl
theorem zq_ftf (x : UInt32) (t : List Value) (n : Nat) : zi_fit (.float x :: t) (n + 1) = zi_fit t n := rfl
theorem zq_ftl (x : Int64) (t : List Value) (n : Nat) : zi_fit (.long x :: t) (n + 2) = zi_fit t n := rfl
theorem zq_pop0 (acc st : List Value) : zi_pop 0 acc st = some (acc, st) := rfl
theorem zq_popS (n : Nat) (acc st : List Value) (v : Value) : zi_pop (n + 1) acc (v :: st) = zi_pop n (v :: acc) st := rfl
theorem zq_la0 : zi_la [] = [] := rfl
theorem zq_lai (x : Int32) (t : List Value) : zi_la (.int x :: t) = some (.int x) :: zi_la t := rfl
theorem zq_lar (x : Nat) (t : List Value) : zi_la (.ref x :: t) = some (.ref x) :: zi_la t := rfl
theorem zq_laz (t : List Value) : zi_la (.null :: t) = some .null :: zi_la t := rfl
theorem zq_laf (x : UInt32) (t : List Value) : zi_la (.float x :: t) = some (.float x) :: zi_la t := rfl
theorem zq_lal (x : Int64) (t : List Value) : zi_la (.long x :: t) = some (.long x) :: none :: zi_la t := rfl
theorem zq_sh0 : zi_sh [] = true := rfl
theorem zq_sh1 (a : Value) : zi_sh [a] = true := rfl
theorem zq_sh2 (a b : Value) : zi_sh [a, b] = true := rfl
theorem zq_sh3 (a b c : Value) : zi_sh [a, b, c] = true := rfl
theorem zq_sh4 (a b c d : Value) : zi_sh [a, b, c, d] = true := rfl
theorem zq_f0 : (0 : Fin 4).val = 0 := rfl
theorem zq_f1 : (1 : Fin 4).val = 1 := rfl
theorem zq_f2 : (2 : Fin 4).val = 2 := rfl
theorem zq_f3 : (3 : Fin 4).val = 3 := rfl
theorem zq_u0 : (UInt32.ofNat 0).toNat = 0 := rfl
theorem zq_u1 : (UInt32.ofNat 1).toNat = 1 := rfl
theorem zq_u2 : (UInt32.ofNat 2).toNat = 2 := rfl
theorem zq_ro0 (sc : Nat × (Nat → Int32)) : zi_ro sc 0 = (5, zi_U) := rfl
theorem zq_ro1 (sc : Nat × (Nat → Int32)) : zi_ro sc 1 = (5, zi_K) := rfl
theorem zq_ro2 (sc : Nat × (Nat → Int32)) : zi_ro sc 2 = sc := rfl
theorem zq_fv0 (x : Int32) (r : Option Nat) : zi_fv 0 x r = .int x := rfl
theorem zq_fv2 (x : Int32) (r : Option Nat) : zi_fv 2 x r = va_rf r := rfl
theorem zq_rfs (n : Nat) : va_rf (some n) = .ref n := rfl
theorem zq_rfn : va_rf none = .null := rfl
theorem zq_gD0 (a : Nat) (l : List Nat) : (a :: l).getD 0 0 = a := rfl
theorem zq_gDS (a n : Nat) (l : List Nat) : (a :: l).getD (n + 1) 0 = l.getD n 0 := rfl
theorem zq_gDN (n : Nat) : ([] : List Nat).getD n 0 = 0 := rfl
theorem zq_lk0 (d : Nat) (x : Int32) : zi_lk d x [] [] = d := rfl
theorem zq_lkS (d : Nat) (x : Int32) (q : Int × Int) (ps : List (Int × Int)) (t : Nat) (ts : List Nat) : zi_lk d x (q :: ps) (t :: ts) = if x = Int32.ofInt q.1 then t else zi_lk d x ps ts := rfl
theorem zq_tb0 (key : Int32) (d : Nat) (x : Int32) : zi_tb key d x [] = d := rfl
theorem zq_tbS (key : Int32) (d : Nat) (x : Int32) (t : Nat) (ts : List Nat) : zi_tb key d x (t :: ts) = if x = key then t else zi_tb (key + 1) d x ts := rfl
theorem zq_o0 : Int32.ofInt 0 = 0 := rfl
theorem zq_o1 : Int32.ofInt 1 = 1 := rfl
theorem zq_o2 : Int32.ofInt 2 = 2 := rfl
theorem zq_o98 : Int32.ofInt 98 = 98 := rfl
theorem zq_o99 : Int32.ofInt 99 = 99 := rfl
theorem zq_o100 : Int32.ofInt 100 = 100 := rfl
theorem zq_o105 : Int32.ofInt 105 = 105 := rfl
theorem zq_o107 : Int32.ofInt 107 = 107 := rfl
theorem zq_o112 : Int32.ofInt 112 = 112 := rfl
theorem zq_o115 : Int32.ofInt 115 = 115 := rfl
theorem zq_o116 : Int32.ofInt 116 = 116 := rfl
theorem zq_c0 : (0 : Int32).toNatClampNeg = 0 := rfl
theorem zq_c1 : (1 : Int32).toNatClampNeg = 1 := rfl
theorem zq_v0 (n : Nat) : zi_vin 0 (n + 1) = true := by simp [zi_vin]
theorem zq_v1 (n : Nat) : zi_vin 1 (n + 2) = true := by simp [zi_vin, zq_c1]
