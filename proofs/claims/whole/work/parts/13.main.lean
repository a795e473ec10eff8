/-! the interpreter is sound: what it comes to, the machine comes to -/
section ZY
variable {p : Program} {l : Launch} {e : Env} {R : Room} {s : State} {m : MethodId} {args : Array Value} {below : List Frame} {meth : Method} {c : Code} {H : Heap} {locs : List Loc} {cells slots : Nat} {Q : State → Prop}
variable {cc : ByteArray} {pc : Nat} {ls : Array Slot} {rest : List Value}
variable {T : Nat → zi_D} {sc : Nat × (Nat → Int32)} {a0 : Nat} {τ : Nat → ClassId} {dC : Nat → ClassId} {dI : Nat → Nat → Nat} {M : zi_M} {σ : Nat → Nat} {k : Nat}
theorem zi_retn {i : zi_I} {len : Nat} (hk : zi_ck T k pc i len = true) {lv : zi_L} {st : List Value} {r : Option Value} (hn : zi_nx sc i lv st M = some (.inr (.inr (.inl r)))) : len = 1 ∧ zi_rok (zi_rt T k) i.1 r ∧ st.map (zi_con a0 σ) = (r.map (zi_con a0 σ)).toList := by
  obtain ⟨op, ia, ib, ic, il⟩ := i
  cases op with
  | ireturn =>
    simp only [zi_nx] at hn
    simp only [zi_ck, Bool.and_eq_true, decide_eq_true_eq] at hk
    obtain ⟨x, rfl, hx, hz⟩ := zi_ri_inv hn
    cases hz
    refine ⟨hk.1, Or.inl ⟨rfl, x, rfl, ?_⟩, rfl⟩
    have h2 := hk.2
    by_cases h1 : ia = 1
    · rw [if_pos h1] at h2
      exact Or.inr ⟨h2, hx h1⟩
    · rw [if_neg h1] at h2
      exact Or.inl h2
  | lreturn =>
    simp only [zi_nx] at hn
    simp only [zi_ck, Bool.and_eq_true, decide_eq_true_eq] at hk
    obtain ⟨x, rfl, hz⟩ := zi_rl_inv hn
    cases hz
    exact ⟨hk.1, Or.inr (Or.inl ⟨rfl, x, rfl, hk.2⟩), rfl⟩
  | areturn =>
    simp only [zi_nx] at hn
    simp only [zi_ck, Bool.and_eq_true, decide_eq_true_eq] at hk
    obtain ⟨v, rfl, hv, hz⟩ := zi_ra_inv hn
    cases hz
    exact ⟨hk.1, Or.inr (Or.inr (Or.inl ⟨rfl, v, rfl, hv, hk.2⟩)), rfl⟩
  | return_ =>
    simp only [zi_nx] at hn
    simp only [zi_ck, Bool.and_eq_true, decide_eq_true_eq] at hk
    obtain ⟨rfl, hz⟩ := zi_rv_inv hn
    cases hz
    exact ⟨hk.1, Or.inr (Or.inr (Or.inr ⟨rfl, rfl, hk.2⟩)), rfl⟩
  | nop => simp only [zi_nx] at hn; cases hn
  | ifCond d off =>
    simp only [zi_nx] at hn
    obtain ⟨x, r, rfl, hz⟩ := zi_if_inv hn
    split at hz <;> cases hz
  | if_icmp d off =>
    simp only [zi_nx] at hn
    obtain ⟨x, y, r, rfl, hz⟩ := zi_ic_inv hn
    split at hz <;> cases hz
  | ifnull off => simp only [zi_nx] at hn; rcases zi_nul_inv hn with ⟨r, rfl, hz⟩ | ⟨x, r, rfl, hz⟩ <;> cases hz
  | ifnonnull off => simp only [zi_nx] at hn; rcases zi_nnl_inv hn with ⟨r, rfl, hz⟩ | ⟨x, r, rfl, hz⟩ <;> cases hz
  | tableswitch d lo hi offs => simp only [zi_nx] at hn; obtain ⟨x, r, rfl, hz⟩ := zi_sw_inv hn; cases hz
  | lookupswitch d ps => simp only [zi_nx] at hn; obtain ⟨x, r, rfl, hz⟩ := zi_sw_inv hn; cases hz
  | invokestatic idx =>
    simp only [zi_nx] at hn
    by_cases h9 : ia = 9998
    · rw [if_pos h9] at hn
      unfold zi_cp at hn
      split at hn
      · split at hn <;> cases hn
      · cases hn
    · rw [if_neg h9] at hn
      obtain ⟨as, r, -, -, -, hz⟩ := zi_iv_inv hn
      cases hz
  | invokevirtual idx => simp only [zi_nx] at hn; obtain ⟨id, as, r, -, -, -, -, hz⟩ := zi_ivr_inv hn; cases hz
  | invokespecial idx =>
    simp only [zi_nx] at hn
    by_cases h9 : ia = 9999
    · rw [if_pos h9] at hn
      unfold zi_obj at hn
      split at hn
      · split at hn <;> cases hn
      · cases hn
    · rw [if_neg h9] at hn
      obtain ⟨id, as, r, -, -, -, -, hz⟩ := zi_ivr_inv hn
      cases hz
  | _ =>
    simp only [zi_nx] at hn
    first
      | cases hn
      | (unfold zi_ldi at hn; split at hn <;> cases hn)
      | (unfold zi_ldl at hn; split at hn <;> cases hn)
      | (unfold zi_lda at hn; split at hn <;> cases hn)
      | (unfold zi_sti at hn; split at hn <;> cases hn)
      | (unfold zi_stl at hn; split at hn <;> cases hn)
      | (unfold zi_sta at hn; split at hn <;> cases hn)
      | (unfold zi_inc at hn; split at hn <;> cases hn)
      | (unfold zi_b2 at hn; split at hn <;> cases hn)
      | (unfold zi_l2 at hn; split at hn <;> cases hn)
      | (unfold zi_lc at hn; split at hn <;> cases hn)
      | (unfold zi_u1 at hn; split at hn <;> cases hn)
      | (unfold zi_pp at hn; split at hn <;> cases hn)
      | (unfold zi_dup at hn; split at hn <;> cases hn)
      | (unfold zi_dup2 at hn; split at hn <;> cases hn)
      | (unfold zi_new at hn; cases hn)
      | (unfold zi_d2 at hn; split at hn <;> (try split at hn) <;> cases hn)
      | (unfold zi_dl2 at hn; split at hn <;> (try split at hn) <;> cases hn)
      | (unfold zi_gf at hn; split at hn <;> (try split at hn) <;> cases hn)
      | (unfold zi_pf at hn; split at hn <;> (try split at hn) <;> cases hn)
      | (unfold zi_ial at hn; split at hn <;> (try split at hn) <;> cases hn)
      | (unfold zi_ias at hn; split at hn <;> (try split at hn) <;> cases hn)
      | (unfold zi_lal at hn; split at hn <;> (try split at hn) <;> cases hn)
      | (unfold zi_las at hn; split at hn <;> (try split at hn) <;> cases hn)
      | (unfold zi_aal at hn; split at hn <;> (try split at hn) <;> cases hn)
      | (unfold zi_aas at hn; split at hn <;> (try split at hn) <;> cases hn)
      | (unfold zi_aln at hn; split at hn <;> (try split at hn) <;> cases hn)
      | (unfold zi_na at hn; split at hn <;> (try split at hn) <;> cases hn)
      | (unfold zi_mna at hn; split at hn <;> (try split at hn) <;> cases hn)
end ZY
/-- the walk from any place of a method -/
def zi_Sd (T : Nat → zi_D) (sc : Nat × (Nat → Int32)) (a0 : Nat) (τ : Nat → ClassId) (σ : Nat → Nat) (dC : Nat → ClassId) (dI : Nat → Nat → Nat) (l : Launch) (n : Nat) : Prop :=
  ∀ (k : Nat) (is : List zi_I) (lv : zi_L) (st : List Value) (M : zi_M) (cu su : Nat) (r : Option Value) (M' : zi_M), zi_ex T sc n k is lv st M cu su = some (r, M') →
    ∀ (p : Program) (e : Env) (s : State) (m : MethodId) (args : Array Value) (below : List Frame) (meth : Method) (c : Code) (H : Heap) (locs : List Loc) (ls : Array Slot) (pc : Nat) (Q : State → Prop),
      zi_cx T sc a0 τ σ dC dI k p s m args meth c → zi_chk T k pc is = true → zi_W a0 τ dC dI M H → va_S (zi_A a0) s.heap H locs → lv_has ls (zi_mx T k) (zi_lp a0 σ 0 lv) → cu ≤ zi_mc T k → su ≤ zi_ms T k →
      (∀ (H' : Heap) (locs' : List Loc) (ls' : Array Slot) (pc' cu' su' : Nat) (op : Instr), zi_W a0 τ dC dI M' H' → va_S (zi_A a0) s.heap H' locs' → decode (zi_cd T k) pc' = .ok (op, 1) → zi_rok (zi_rt T k) op r → cu' ≤ zi_mc T k → su' ≤ zi_ms T k → W p l e (zi_rm T k) s m args below meth c H' locs' cu' su' Q (F0 m pc' ls' (r.map (zi_con a0 σ)).toList)) →
      W p l e (zi_rm T k) s m args below meth c H locs cu su Q (F0 m pc ls (st.map (zi_con a0 σ)))
/-- a method's contract out of the walk -/
theorem zi_met {T : Nat → zi_D} {sc : Nat × (Nat → Int32)} {a0 : Nat} {τ : Nat → ClassId} {σ : Nat → Nat} {dC : Nat → ClassId} {dI : Nat → Nat → Nat} {l : Launch} {n : Nat} (hall : ∀ k b, zi_chk T k (zi_sp T k b) (zi_bk T k b) = true) (hpl : ∀ k, plainName (zi_yy T k).cls = true) (hz : ∀ k, zi_sp T k 0 = 0) (hSd : zi_Sd T sc a0 τ σ dC dI l n)
    {k : Nat} {as : List Value} {M M' : zi_M} {r : Option Value} (hex : zi_ex T sc n k (zi_bk T k 0) (zi_la as) [] M 0 0 = some (r, M')) (hfit : zi_fit as (zi_mx T k) = true) : Met l (zi_yy T k) (zi_wd T k) (zi_rm T k) (zi_Pre sc a0 τ σ dC dI M as) (zi_Post a0 τ σ dC dI r M') (zi_mc T k) (zi_ms T k) (zi_A a0) := by
  refine Met.ofW (cc := zi_cd T k) (maxL := zi_mx T k) (ret := zi_rt T k) (hpl k) rfl ?_
  intro p e s m args below meth c s₁ B hml hv
  obtain ⟨rfl, hS0, hW0⟩ := hv
  have hts := atoms_spec (ws := zi_wd T k) B.pre
  have hown : s.vm.findClass (zi_yy T k).cls = some m.cls := findClass_of_methodNamed B.named
  have hr := B.returns
  have hlocks := B.notSynchronized
  have hcx : zi_cx T sc a0 τ σ dC dI k p s m (as.map (zi_con a0 σ)).toArray meth c := ⟨B.exec, B.bytes, hml, hown, fun w hw => hts w (List.mem_cons_of_mem _ hw), (name_of_methodNamed B.named B.method).1, hS0, by rw [hW0.1.1]; exact Nat.le_add_right _ _⟩
  have hl := lv_entry (as.map (zi_con a0 σ)) (n := zi_mx T k) (zi_fit_len as _ hfit)
  rw [lg_entry_eq]
  generalize (lg_sl (as.map (zi_con a0 σ)) ++ List.replicate (zi_mx T k - (lg_sl (as.map (zi_con a0 σ))).length) Slot.unset).toArray = ls at hl ⊢
  have hl2 : lv_has ls (zi_mx T k) (zi_lp a0 σ 0 (zi_la as)) := zi_has_mono hl (fun q hq => zi_la_mem as 0 q hq)
  have hc0 := hall k 0
  rw [hz k] at hc0
  refine hSd k _ _ _ _ _ _ _ _ hex p e s m _ below meth c s.heap [] ls 0 _ hcx hc0 hW0 va_S.rf hl2 (Nat.zero_le _) (Nat.zero_le _) ?_
  intro H' locs' ls' pc' cu' su' op hW' hS' hd hok h1 h2
  refine W.widen h1 h2 ?_
  rcases hok with ⟨rfl, x, rfl, hx⟩ | ⟨rfl, x, rfl, hx⟩ | ⟨rfl, v, rfl, hv, hx⟩ | ⟨rfl, rfl, hx⟩
  · rcases hx with hx | ⟨hx, hx2⟩
    · exact W.iret B.exec B.bytes (hr.trans hx) (fun t ht hWm => ⟨rfl, by rw [ht]; exact hW', hS'.F ht⟩) hS'.2.2 hd
    · exact W.zret (ty := .boolean) B.exec B.bytes (hr.trans hx) (zi_nar_bool hx2).1 (fun t ht hWm => ⟨rfl, by rw [ht]; exact hW', hS'.F ht⟩) hS'.2.2 hd
  · exact W.lret B.exec B.bytes (hr.trans hx) (fun t ht hWm => ⟨rfl, by rw [ht]; exact hW', hS'.F ht⟩) hS'.2.2 hd
  · refine W.aret B.exec B.bytes (hr.trans hx) (Or.inl ⟨_, rfl⟩) ?_ (fun t ht hWm => ⟨rfl, by rw [ht]; exact hW', hS'.F ht⟩) hS'.2.2 hd
    rcases hv with rfl | ⟨x, rfl⟩
    · exact Or.inl rfl
    · exact Or.inr ⟨_, rfl⟩
  · exact W.vret B.exec B.bytes (hr.trans hx) (fun t ht hWm => ⟨rfl, by rw [ht]; exact hW', hS'.F ht⟩) hS'.2.2 hd
theorem zi_sound {T : Nat → zi_D} {sc : Nat × (Nat → Int32)} {a0 : Nat} {τ : Nat → ClassId} {σ : Nat → Nat} {dC : Nat → ClassId} {dI : Nat → Nat → Nat} {l : Launch} (hall : ∀ k b, zi_chk T k (zi_sp T k b) (zi_bk T k b) = true) (hpl : ∀ k, plainName (zi_yy T k).cls = true) (hz : ∀ k, zi_sp T k 0 = 0) : ∀ n, zi_Sd T sc a0 τ σ dC dI l n := by
  intro n
  induction n with
  | zero => intro k is lv st M cu su r M' h; simp [zi_ex] at h
  | succ n ih =>
    intro k is lv st M cu su r M' hex p e s m args below meth c H locs ls pc Q C hchk hW hS hl hcu hsu hret
    cases is with
    | nil => simp [zi_ex] at hex
    | cons i is =>
      unfold zi_ex at hex
      cases hnx : zi_nx sc i lv st M with
      | none => rw [hnx] at hex; cases hex
      | some z =>
        rw [hnx] at hex
        by_cases hnop : i.1 = .nop
        · unfold zi_chk at hchk
          rw [if_pos hnop] at hchk
          simp only [Bool.and_eq_true, decide_eq_true_eq] at hchk
          have hz2 : z = .inr (.inl (i.2.1, st)) := by
            unfold zi_nx at hnx
            rw [hnop] at hnx
            exact (Option.some.inj hnx).symm
          subst hz2
          rw [hchk.1]
          exact ih k _ lv st M cu su r M' hex p e s m args below meth c H locs ls _ Q C (hall k i.2.1) hW hS hl hcu hsu hret
        · unfold zi_chk at hchk
          rw [if_neg hnop] at hchk
          cases hdc : decode (zi_cd T k) pc with
          | error er => rw [hdc] at hchk; cases hchk
          | ok q =>
            obtain ⟨op, len⟩ := q
            rw [hdc] at hchk
            simp only [Bool.and_eq_true, decide_eq_true_eq] at hchk
            obtain ⟨rfl, hck, hrest⟩ := hchk
            rcases z with ⟨lv', st', M2⟩ | ⟨b, st'⟩ | r2 | ⟨j, as, st'⟩
            · dsimp only at hex
              by_cases hg : cu + (zi_al i st).1 ≤ zi_mc T k ∧ su + (zi_al i st).2 ≤ zi_ms T k
              · rw [if_pos hg] at hex
                exact zi_step C hdc hck hnx hW hS hl hg.1 hg.2 (fun H1 locs1 ls1 w1 s1 l1 => ih k is lv' st' M2 _ _ r M' hex p e s m args below meth c H1 locs1 ls1 _ Q C hrest w1 s1 l1 hg.1 hg.2 hret)
              · rw [if_neg hg] at hex
                cases hex
            · dsimp only at hex
              exact zi_jump C hdc hnop hck hnx (ih k _ lv st' M cu su r M' hex p e s m args below meth c H locs ls _ Q C (hall k b) hW hS hl hcu hsu hret)
            · dsimp only at hex
              have hex2 := Option.some.inj hex
              cases hex2
              obtain ⟨h1, h2, h3⟩ := zi_retn (a0 := a0) (σ := σ) hck hnx
              subst h1
              rw [h3]
              exact hret H locs ls pc cu su i.1 hW hS hdc h2 hcu hsu
            · dsimp only at hex
              by_cases hg : cu + zi_mc T j ≤ zi_mc T k ∧ su + zi_ms T j ≤ zi_ms T k
              · rw [if_pos hg] at hex
                cases hcall : zi_ex T sc n j (zi_bk T j 0) (zi_la as) [] M 0 0 with
                | none => rw [hcall] at hex; cases hex
                | some q =>
                  obtain ⟨r3, M3⟩ := q
                  rw [hcall] at hex
                  dsimp only at hex
                  refine zi_call C hdc hck hnx hW hS hl.1 (fun hfit => zi_met hall hpl hz ih hcall hfit) hg (fun H1 locs1 w1 s1 => ?_)
                  have h := ih k is lv (r3.toList ++ st') M3 _ _ r M' hex p e s m args below meth c H1 locs1 ls _ Q C hrest w1 s1 hl hg.1 hg.2 hret
                  rw [List.map_append] at h
                  cases r3 with
                  | none => exact h
                  | some v => exact h
              · rw [if_neg hg] at hex
                cases hex
