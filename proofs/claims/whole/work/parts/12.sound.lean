/-! jumps, calls, ends; the interpreter is sound -/
theorem zi_i1 {key : Int32} (h0 : 0 ≤ key.toInt) (h1 : key.toInt < 100000) : (key + 1).toInt = key.toInt + 1 := by
  rw [Int32.toInt_add, show (1 : Int32).toInt = 1 from rfl]
  exact Int.bmod_eq_of_le (by omega) (by omega)
theorem zi_tb_out : ∀ (ts : List Nat) (key : Int32) (d : Nat) (x : Int32), 0 ≤ key.toInt → key.toInt + ts.length < 1001 → (x.toInt < key.toInt ∨ key.toInt + ts.length ≤ x.toInt) → zi_tb key d x ts = d
  | [], key, d, x, _, _, _ => rfl
  | t :: ts, key, d, x, h0, h1, h => by
    simp only [List.length_cons] at h1 h
    have e := zi_i1 h0 (by omega)
    unfold zi_tb
    rw [if_neg (fun q => by rw [q] at h; omega)]
    exact zi_tb_out ts (key + 1) d x (by omega) (by omega) (by omega)
theorem zi_tb_in : ∀ (ts : List Nat) (key : Int32) (d : Nat) (x : Int32) (j : Nat), 0 ≤ key.toInt → key.toInt + ts.length < 1001 → x.toInt = key.toInt + j → j < ts.length → some (zi_tb key d x ts) = ts[j]?
  | [], key, d, x, j, _, _, _, h => absurd h (Nat.not_lt_zero _)
  | t :: ts, key, d, x, j, h0, h1, h, hj => by
    simp only [List.length_cons] at h1 hj
    have e := zi_i1 h0 (by omega)
    cases j with
    | zero =>
      have : x = key := Int32.toInt_inj.mp (by omega)
      unfold zi_tb
      rw [if_pos this]
      rfl
    | succ j =>
      unfold zi_tb
      rw [if_neg (fun q => by rw [q] at h; omega)]
      rw [List.getElem?_cons_succ]
      exact zi_tb_in ts (key + 1) d x j (by omega) (by omega) (by omega) (by omega)
theorem zi_lk_off (pc : Int) (sp : Nat → Nat) (d : Nat) (dd : Int) (hd : pc + dd = (sp d : Int)) (x : Int32) : ∀ (ps : List (Int × Int)) (ts : List Nat), ps.map (fun q => pc + q.2) = ts.map (fun b => (sp b : Int)) → ps.all (fun q => decide ((Int32.ofInt q.1).toInt = q.1)) = true → pc + Op.lookupswitch.offset ps dd x.toInt = (sp (zi_lk d x ps ts) : Int)
  | [], ts, h, _ => by
    cases ts with
    | nil => exact hd
    | cons t ts => simp at h
  | q :: ps, [], h, _ => by simp at h
  | q :: ps, t :: ts, h, ha => by
    simp only [List.map_cons, List.cons.injEq] at h
    simp only [List.all_cons, Bool.and_eq_true, decide_eq_true_eq] at ha
    obtain ⟨q1, q2⟩ := q
    rw [Op.lookupswitch.offset_cons]
    unfold zi_lk
    by_cases hq : x = Int32.ofInt q1
    · rw [if_pos (by rw [hq]; exact ha.1.symm), if_pos hq]
      exact h.1
    · rw [if_neg (fun z => hq (Int32.toInt_inj.mp (by rw [← z]; exact ha.1.symm))), if_neg hq]
      exact zi_lk_off pc sp d dd hd x ps ts h.2 ha.2
def zi_rok (rt : Option FieldType) (op : Instr) (r : Option Value) : Prop :=
  (op = .ireturn ∧ ∃ x, r = some (.int x) ∧ (rt = some .int ∨ (rt = some .boolean ∧ (x = 0 ∨ x = 1)))) ∨ (op = .lreturn ∧ ∃ x, r = some (.long x) ∧ rt = some .long) ∨ (op = .areturn ∧ ∃ v, r = some v ∧ (v = .null ∨ ∃ x, v = .ref x) ∧ rt = some (.object "LoopRounds$Round")) ∨ (op = .return_ ∧ r = none ∧ rt = none)
def zi_wd (T : Nat → zi_D) (k : Nat) : List Cond := Cond.code (zi_yy T k) (zi_cd T k) (zi_mx T k) (zi_rt T k) :: zi_gw
def zi_Pre (sc : Nat × (Nat → Int32)) (a0 : Nat) (τ : Nat → ClassId) (σ : Nat → Nat) (dC : Nat → ClassId) (dI : Nat → Nat → Nat) (M : zi_M) (as : List Value) : Array Value → State → Prop := va_Pc (as.map (zi_con a0 σ)) (fun U => zi_S sc a0 τ σ dC dI U ∧ zi_W a0 τ dC dI M U.heap)
def zi_Post (a0 : Nat) (τ : Nat → ClassId) (σ : Nat → Nat) (dC : Nat → ClassId) (dI : Nat → Nat → Nat) (r : Option Value) (M' : zi_M) : Array Value → State → Outcome → State → Prop := fun _ st oc t => oc = .returned (r.map (zi_con a0 σ)) ∧ zi_W a0 τ dC dI M' t.heap ∧ va_F (zi_A a0) st t
section ZX
variable {p : Program} {l : Launch} {e : Env} {R : Room} {s : State} {m : MethodId} {args : Array Value} {below : List Frame} {meth : Method} {c : Code} {H : Heap} {locs : List Loc} {cells slots : Nat} {Q : State → Prop}
variable {cc : ByteArray} {pc : Nat} {ls : Array Slot} {rest : List Value}
variable {T : Nat → zi_D} {sc : Nat × (Nat → Int32)} {a0 : Nat} {τ : Nat → ClassId} {dC : Nat → ClassId} {dI : Nat → Nat → Nat} {M : zi_M} {σ : Nat → Nat} {k : Nat}
theorem zi_jump (C : zi_cx T sc a0 τ σ dC dI k p s m args meth c) {i : zi_I} {len : Nat} (hd : decode (zi_cd T k) pc = .ok (i.1, len)) (hne : i.1 ≠ .nop) (hk : zi_ck T k pc i len = true) {lv : zi_L} {st st' : List Value} {b : Nat} (hn : zi_nx sc i lv st M = some (.inr (.inl (b, st'))))
    (kk : W p l e R s m args below meth c H locs cells slots Q (F0 m (zi_sp T k b) ls (st'.map (zi_con a0 σ)))) : W p l e R s m args below meth c H locs cells slots Q (F0 m pc ls (st.map (zi_con a0 σ))) := by
  obtain ⟨hx, hb, hml, hown, hts, hmn, hSS, ha0⟩ := id C
  obtain ⟨op, ia, ib, ic, il⟩ := i
  dsimp only at hd hne
  cases op with
  | nop => exact absurd rfl hne
  | goto off =>
    simp only [zi_ck, Bool.and_eq_true, decide_eq_true_eq] at hk
    simp only [zi_nx, Option.some.injEq, Sum.inr.injEq, Sum.inl.injEq, Prod.mk.injEq] at hn
    obtain ⟨rfl, rfl⟩ := hn
    obtain ⟨rfl, h2⟩ := hk
    exact lv_goto hx hb hd h2 kk
  | ifCond d off =>
    simp only [zi_ck, Bool.and_eq_true, decide_eq_true_eq] at hk
    simp only [zi_nx] at hn
    obtain ⟨x, r, rfl, hz⟩ := zi_if_inv hn
    obtain ⟨rfl, h2⟩ := hk
    by_cases hcm : zi_cmp d x 0 = true
    · rw [if_pos hcm] at hz
      cases hz
      exact zi_t_if hx hb hd h2 (fun _ => kk) (fun h => absurd hcm h)
    · rw [if_neg hcm] at hz
      cases hz
  | if_icmp d off =>
    simp only [zi_ck, Bool.and_eq_true, decide_eq_true_eq] at hk
    simp only [zi_nx] at hn
    obtain ⟨x, y, r, rfl, hz⟩ := zi_ic_inv hn
    obtain ⟨rfl, h2⟩ := hk
    by_cases hcm : zi_cmp d x y = true
    · rw [if_pos hcm] at hz
      cases hz
      exact zi_t_ic hx hb hd h2 (fun _ => kk) (fun h => absurd hcm h)
    · rw [if_neg hcm] at hz
      cases hz
  | ifnull off =>
    simp only [zi_ck, Bool.and_eq_true, decide_eq_true_eq] at hk
    simp only [zi_nx] at hn
    obtain ⟨rfl, h2⟩ := hk
    rcases zi_nul_inv hn with ⟨r, rfl, hz⟩ | ⟨x, r, rfl, hz⟩
    · cases hz
      exact lv_ifnullN hx hb hd h2 kk
    · cases hz
  | ifnonnull off =>
    simp only [zi_ck, Bool.and_eq_true, decide_eq_true_eq] at hk
    simp only [zi_nx] at hn
    obtain ⟨rfl, h2⟩ := hk
    rcases zi_nnl_inv hn with ⟨r, rfl, hz⟩ | ⟨x, r, rfl, hz⟩
    · cases hz
    · cases hz
      exact lv_ifnonnull hx hb hd h2 kk
  | tableswitch d lo hi offs =>
    simp only [zi_ck, Bool.and_eq_true, decide_eq_true_eq] at hk
    simp only [zi_nx] at hn
    obtain ⟨x, r, rfl, hz⟩ := zi_sw_inv hn
    cases hz
    obtain ⟨h1, ⟨h2, h3, h4, h5⟩, h6⟩ := hk
    have hlen : offs.toList.length = il.length := by have := congrArg List.length h6; simpa using this
    by_cases ho : x.toInt < lo ∨ hi < x.toInt
    · refine lv_tableOut hx hb hd ho h1 ?_
      rw [zi_tb_out il ic ia x (by omega) (by omega) (by omega)] at kk
      exact kk
    · have hj : (x.toInt - lo).toNat < il.length := by omega
      have e1 := zi_tb_in il ic ia x (x.toInt - lo).toNat (by omega) (by omega) (by omega) hj
      have e2 := congrArg (fun z => z[(x.toInt - lo).toNat]?) h6
      simp only [List.getElem?_map, ← e1, Option.map_some] at e2
      have hjo : (x.toInt - lo).toNat < offs.toList.length := by rw [hlen]; exact hj
      obtain ⟨off, hoff⟩ : ∃ off, offs.toList[(x.toInt - lo).toNat]? = some off := ⟨_, List.getElem?_eq_getElem hjo⟩
      rw [hoff, Option.map_some] at e2
      exact lv_tableIn hx hb hd (fun q => ho (Or.inl q)) (fun q => ho (Or.inr q)) (by rw [← Array.getElem?_toList]; exact hoff) (Option.some.inj e2) kk
  | lookupswitch d ps =>
    simp only [zi_ck, Bool.and_eq_true, decide_eq_true_eq] at hk
    simp only [zi_nx] at hn
    obtain ⟨x, r, rfl, hz⟩ := zi_sw_inv hn
    cases hz
    obtain ⟨h1, h2, h3, h4⟩ := hk
    exact lv_lookup hx hb hd h2 rfl (zi_lk_off pc (zi_sp T k) ia d h1 x ps.toList il h4 h3) kk
  | ireturn => simp only [zi_nx] at hn; obtain ⟨x, -, -, hz⟩ := zi_ri_inv hn; cases hz
  | lreturn => simp only [zi_nx] at hn; obtain ⟨x, -, hz⟩ := zi_rl_inv hn; cases hz
  | areturn => simp only [zi_nx] at hn; obtain ⟨x, -, -, hz⟩ := zi_ra_inv hn; cases hz
  | return_ => simp only [zi_nx] at hn; obtain ⟨-, hz⟩ := zi_rv_inv hn; cases hz
  | invokestatic idx =>
    simp only [zi_nx] at hn
    by_cases h9 : ia = 9998
    · rw [if_pos h9] at hn
      unfold zi_cp at hn
      split at hn
      · split at hn <;> cases hn
      · cases hn
    · rw [if_neg h9] at hn
      obtain ⟨as, r, -, -, -, hz⟩ := zi_iv_inv hn
      cases hz
  | invokevirtual idx => simp only [zi_nx] at hn; obtain ⟨id, as, r, -, -, -, -, hz⟩ := zi_ivr_inv hn; cases hz
  | invokespecial idx =>
    simp only [zi_nx] at hn
    by_cases h9 : ia = 9999
    · rw [if_pos h9] at hn
      unfold zi_obj at hn
      split at hn
      · split at hn <;> cases hn
      · cases hn
    · rw [if_neg h9] at hn
      obtain ⟨id, as, r, -, -, -, -, hz⟩ := zi_ivr_inv hn
      cases hz
  | _ =>
    simp only [zi_nx] at hn
    first
      | cases hn
      | (unfold zi_ldi at hn; split at hn <;> cases hn)
      | (unfold zi_ldl at hn; split at hn <;> cases hn)
      | (unfold zi_lda at hn; split at hn <;> cases hn)
      | (unfold zi_sti at hn; split at hn <;> cases hn)
      | (unfold zi_stl at hn; split at hn <;> cases hn)
      | (unfold zi_sta at hn; split at hn <;> cases hn)
      | (unfold zi_inc at hn; split at hn <;> cases hn)
      | (unfold zi_b2 at hn; split at hn <;> cases hn)
      | (unfold zi_l2 at hn; split at hn <;> cases hn)
      | (unfold zi_lc at hn; split at hn <;> cases hn)
      | (unfold zi_u1 at hn; split at hn <;> cases hn)
      | (unfold zi_pp at hn; split at hn <;> cases hn)
      | (unfold zi_dup at hn; split at hn <;> cases hn)
      | (unfold zi_dup2 at hn; split at hn <;> cases hn)
      | (unfold zi_new at hn; cases hn)
      | (unfold zi_d2 at hn; split at hn <;> (try split at hn) <;> cases hn)
      | (unfold zi_dl2 at hn; split at hn <;> (try split at hn) <;> cases hn)
      | (unfold zi_gf at hn; split at hn <;> (try split at hn) <;> cases hn)
      | (unfold zi_pf at hn; split at hn <;> (try split at hn) <;> cases hn)
      | (unfold zi_ial at hn; split at hn <;> (try split at hn) <;> cases hn)
      | (unfold zi_ias at hn; split at hn <;> (try split at hn) <;> cases hn)
      | (unfold zi_lal at hn; split at hn <;> (try split at hn) <;> cases hn)
      | (unfold zi_las at hn; split at hn <;> (try split at hn) <;> cases hn)
      | (unfold zi_aal at hn; split at hn <;> (try split at hn) <;> cases hn)
      | (unfold zi_aas at hn; split at hn <;> (try split at hn) <;> cases hn)
      | (unfold zi_aln at hn; split at hn <;> (try split at hn) <;> cases hn)
      | (unfold zi_na at hn; split at hn <;> (try split at hn) <;> cases hn)
      | (unfold zi_mna at hn; split at hn <;> (try split at hn) <;> cases hn)
/-- behind a call -/
theorem zi_callW {mc ms : Nat} {r : Option Value} {M' : zi_M} {a : Array Value} {st0 : List Value} (hr : va_Run p l e R s m args below meth c H locs cells slots mc ms (F0 m pc ls st0) rest (zi_Post a0 τ σ dC dI r M' a) (zi_A a0)) (hS : va_S (zi_A a0) s.heap H locs)
    (kk : ∀ (H1 : Heap) (locs1 : List Loc), zi_W a0 τ dC dI M' H1 → va_S (zi_A a0) s.heap H1 locs1 → W p l e R s m args below meth c H1 locs1 (cells + mc) (slots + ms) Q (F0 m (pc + 3) ls ((r.map (zi_con a0 σ)).toList ++ rest))) : W p l e R s m args below meth c H locs cells slots Q (F0 m pc ls st0) := by
  intro T hT X
  obtain ⟨v, st₀, t, T', L, h0, X', hL, e1, e2, ⟨hv, hw, hz, hk⟩, st⟩ := hr T hT X
  cases hv
  rw [h0] at hz hk
  obtain ⟨t2, a1, b1⟩ := kk T'.heap (locs ++ L) (by rw [e1]; exact hw) ⟨Nat.le_trans hS.1 (by rw [e1]; exact hz), fun q h1 h2 => by rw [e1, hk q (Nat.lt_of_lt_of_le h1 hS.1) h2]; exact hS.2.1 q h1 h2, fun q hq => by
      rcases List.mem_append.mp hq with h | h
      · exact hS.2.2 q h
      · exact hL q h⟩ T' rfl X'
  exact ⟨t2, st t2 a1, b1⟩
theorem zi_kc_spec {j np p1 p2 : Nat} (h : zi_kc T k j np p1 p2 = true) : Cond.code (zi_yy T j) (zi_cd T j) (zi_mx T j) (zi_rt T j) ∈ zi_gw ∧ Cond.initialized (zi_yy T j).cls ∈ zi_gw ∧ ((zi_yy T j).cls ≠ "java/lang/invoke/MethodHandle" ∧ (zi_yy T j).cls ≠ "java/lang/invoke/VarHandle") ∧ (parseMethodDescriptor (zi_yy T j).desc).map (fun d => d.parameters.length) = some np ∧ (zi_fr T j + 1 ≤ zi_fr T k ∧ 8 + (zi_mx T j + 11) + zi_lc' T j ≤ zi_lc' T k) := by
  unfold zi_kc at h
  simp only [Bool.and_eq_true, decide_eq_true_eq] at h
  exact ⟨zi_w_in h.1, zi_w_in h.2.1, h.2.2.1, h.2.2.2.1, h.2.2.2.2⟩
theorem zi_wd_good {j : Nat} (h : Cond.code (zi_yy T j) (zi_cd T j) (zi_mx T j) (zi_rt T j) ∈ zi_gw) : GoodIn zi_gw (zi_wd T j) := by
  intro w hw
  rcases List.mem_cons.mp hw with rfl | hw
  · exact ⟨h, zi_gw_good h⟩
  · exact ⟨hw, zi_gw_good hw⟩
theorem zi_blind {as : List Value} : FrameBlind (zi_Pre sc a0 τ σ dC dI M as) := fun a U g mk h => ⟨h.1, h.2.1.blind, h.2.2⟩
theorem zi_call (C : zi_cx T sc a0 τ σ dC dI k p s m args meth c) {i : zi_I} {len : Nat} (hd : decode (zi_cd T k) pc = .ok (i.1, len)) (hk : zi_ck T k pc i len = true) {lv : zi_L} {st st' as : List Value} {j : Nat} (hn : zi_nx sc i lv st M = some (.inr (.inr (.inr (j, as, st'))))) (hW : zi_W a0 τ dC dI M H) (hS : va_S (zi_A a0) s.heap H locs) (hl : ls.size = zi_mx T k) {r : Option Value} {M' : zi_M}
    (hM : zi_fit as (zi_mx T j) = true → Met l (zi_yy T j) (zi_wd T j) (zi_rm T j) (zi_Pre sc a0 τ σ dC dI M as) (zi_Post a0 τ σ dC dI r M') (zi_mc T j) (zi_ms T j) (zi_A a0)) (hcs : cells + zi_mc T j ≤ zi_mc T k ∧ slots + zi_ms T j ≤ zi_ms T k)
    (kk : ∀ (H1 : Heap) (locs1 : List Loc), zi_W a0 τ dC dI M' H1 → va_S (zi_A a0) s.heap H1 locs1 → W p l e (zi_rm T k) s m args below meth c H1 locs1 (cells + zi_mc T j) (slots + zi_ms T j) Q (F0 m (pc + len) ls ((r.map (zi_con a0 σ)).toList ++ st'.map (zi_con a0 σ)))) : W p l e (zi_rm T k) s m args below meth c H locs cells slots Q (F0 m pc ls (st.map (zi_con a0 σ))) := by
  obtain ⟨hx, hb, hml, hown, hts, hmn, hSS, ha0⟩ := id C
  have hK := hSS.1
  have hPc : ∀ U : State, U.heap = H → s.WarmedH U.vm → zi_Pre sc a0 τ σ dC dI M as (as.map (zi_con a0 σ)).toArray U := fun U hU hWm => ⟨rfl, hSS.moved hWm (by rw [hU]; exact hS), by rw [hU]; exact hW⟩
  obtain ⟨op, ia, ib, ic, il⟩ := i
  dsimp only at hd
  cases op with
  | invokestatic idx =>
    simp only [zi_nx] at hn
    by_cases h9 : ia = 9998
    · rw [if_pos h9] at hn
      unfold zi_cp at hn
      split at hn
      · split at hn <;> cases hn
      · cases hn
    · rw [if_neg h9] at hn
      simp only [zi_ck, if_neg h9, Bool.and_eq_true, decide_eq_true_eq] at hk
      obtain ⟨rfl, h2, h3, h4, h5⟩ := hk
      obtain ⟨as2, r2, hp, hsh, hfit, hz⟩ := zi_iv_inv hn
      cases hz
      obtain ⟨g1, g2, g3, g4, g5⟩ := zi_kc_spec h2
      rw [h3] at hfit
      have hst : st.map (zi_con a0 σ) = (as.map (zi_con a0 σ)).reverse ++ st'.map (zi_con a0 σ) := by
        have := zi_pop_eq _ _ _ _ _ hp
        simp only [List.reverse_nil, List.nil_append] at this
        rw [this, List.map_append, List.map_reverse]
      have hlen : (as.map (zi_con a0 σ)).length = ib := by
        have := zi_pop_len _ _ _ _ _ hp
        simpa using this
      rcases (Bool.or_eq_true _ _).mp h5 with h | h
      · exact zi_callW (va_runS (As := as.map (zi_con a0 σ)) (rest := st'.map (zi_con a0 σ)) ⟨hx, hb, hml, hown, hts⟩ (hM hfit) ⟨callB_of ib hts (zi_wd_good g1) rfl rfl rfl (hts _ g2) (hts _ (zi_w_in h)) ⟨g3.1, g3.2, g4⟩ g5, hts _ (zi_w_in h4)⟩ ⟨zi_blind, hPc⟩ rfl hlen hl hst (lv_room (zi_sh_sum a0 σ _ hsh)) hd hcs) hS kk
      · exact zi_callW (va_runSN (As := as.map (zi_con a0 σ)) (rest := st'.map (zi_con a0 σ)) ⟨hx, hb, hml, hown, hts⟩ (hM hfit) ⟨va_cnB ib hts (zi_wd_good g1) rfl rfl rfl (hSS.2.2.2.2 _ (zi_wn_in h)) (hts _ g2) ⟨g3.1, g3.2, g4⟩ g5, hts _ (zi_w_in h4), trivial⟩ ⟨zi_blind, hPc⟩ rfl hlen hl hst (lv_room (zi_sh_sum a0 σ _ hsh)) hd hcs) hS kk
  | invokevirtual idx =>
    simp only [zi_nx] at hn
    simp only [zi_ck, Bool.and_eq_true, decide_eq_true_eq] at hk
    obtain ⟨rfl, h2, ⟨h3, h3b, h3c, h3d⟩, h4, h5, h6⟩ := hk
    obtain ⟨id, as2, r2, hp, hid, hsh, hfit, hz⟩ := zi_ivr_inv hn
    cases hz
    obtain ⟨g1, g2, g3, g4, g5⟩ := zi_kc_spec h2
    rw [h3] at hfit
    have hst : st.map (zi_con a0 σ) = (as2.map (zi_con a0 σ)).reverse ++ .ref (a0 + id) :: st'.map (zi_con a0 σ) := by
      have := zi_pop_eq _ _ _ _ _ hp
      simp only [List.reverse_nil, List.nil_append, List.reverse_cons, List.append_assoc, List.singleton_append] at this
      rw [this, List.map_append, List.map_reverse, List.map_cons]
      rfl
    have hlen : (as2.map (zi_con a0 σ)).length = ib - 1 := by
      have := zi_pop_len _ _ _ _ _ hp
      simp only [List.length_cons, List.length_nil] at this
      rw [List.length_map]
      omega
    have hrec : ∃ cellB : Cell, H[a0 + id]? = some cellB ∧ cellB.vm.isStatics = false ∧ s.vm.findClass (zi_yy T j).cls = some cellB.cls := by
      rw [← h3c]
      have ha := zi_at hW (id := id) (by rw [hid]; show (0 : Nat) ≠ 9; decide)
      rw [zi_c0 hid] at ha
      exact va_recv hK hW.2 (zi_q_at h3b) ha
    exact zi_callW (va_runV (As := as2.map (zi_con a0 σ)) (rest := st'.map (zi_con a0 σ)) ⟨hx, hb, hml, hown, hts⟩ (hM hfit) ⟨callB_of (ib - 1) hts (zi_wd_good g1) rfl rfl rfl (hts _ g2) (hts _ (zi_w_in h6)) ⟨g3.1, g3.2, g4⟩ g5, hts _ (zi_w_in h4), hts _ (zi_w_in h5)⟩ ⟨zi_blind, hrec, hPc⟩ rfl hlen hl hst (lv_room (zi_sh_sum a0 σ _ hsh)) hd hcs) hS kk
  | invokespecial idx =>
    simp only [zi_nx] at hn
    by_cases h9 : ia = 9999
    · rw [if_pos h9] at hn
      unfold zi_obj at hn
      split at hn
      · split at hn <;> cases hn
      · cases hn
    · rw [if_neg h9] at hn
      simp only [zi_ck, if_neg h9, Bool.and_eq_true, decide_eq_true_eq] at hk
      obtain ⟨rfl, h2, ⟨h3, h3b, h3c, h3d⟩, h4, h5⟩ := hk
      obtain ⟨id, as2, r2, hp, hid, hsh, hfit, hz⟩ := zi_ivr_inv hn
      cases hz
      obtain ⟨g1, g2, g3, g4, g5⟩ := zi_kc_spec h2
      rw [h3] at hfit
      have hst : st.map (zi_con a0 σ) = (as2.map (zi_con a0 σ)).reverse ++ .ref (a0 + id) :: st'.map (zi_con a0 σ) := by
        have := zi_pop_eq _ _ _ _ _ hp
        simp only [List.reverse_nil, List.nil_append, List.reverse_cons, List.append_assoc, List.singleton_append] at this
        rw [this, List.map_append, List.map_reverse, List.map_cons]
        rfl
      have hlen : (as2.map (zi_con a0 σ)).length = ib - 1 := by
        have := zi_pop_len _ _ _ _ _ hp
        simp only [List.length_cons, List.length_nil] at this
        rw [List.length_map]
        omega
      have hwd : zi_wd T j = Cond.code (zi_yy T j) (zi_cd T j) (zi_mx T j) none :: zi_gw := by unfold zi_wd; rw [h3c]
      rcases (Bool.or_eq_true _ _).mp h5 with h | h
      · exact zi_callW (va_runI (As := as2.map (zi_con a0 σ)) (rest := st'.map (zi_con a0 σ)) ⟨hx, hb, hml, hown, hts⟩ (hM hfit) ⟨callB_of (ib - 1) hts (zi_wd_good g1) hwd rfl rfl (hts _ g2) (hts _ (zi_w_in h)) ⟨g3.1, g3.2, g4⟩ g5, h3b, hts _ (zi_w_in h4)⟩ ⟨zi_blind, hPc⟩ rfl hlen hl hst (lv_room (zi_sh_sum a0 σ _ hsh)) hd hcs) hS kk
      · exact zi_callW (va_runIN (As := as2.map (zi_con a0 σ)) (rest := st'.map (zi_con a0 σ)) ⟨hx, hb, hml, hown, hts⟩ (hM hfit) ⟨va_cnB (ib - 1) hts (zi_wd_good g1) hwd rfl rfl (hSS.2.2.2.2 _ (zi_wn_in h)) (hts _ g2) ⟨g3.1, g3.2, g4⟩ g5, h3b, hts _ (zi_w_in h4)⟩ ⟨zi_blind, hPc⟩ rfl hlen hl hst (lv_room (zi_sh_sum a0 σ _ hsh)) hd hcs) hS kk
  | ifCond d off =>
    simp only [zi_nx] at hn
    obtain ⟨x, r, rfl, hz⟩ := zi_if_inv hn
    split at hz <;> cases hz
  | if_icmp d off =>
    simp only [zi_nx] at hn
    obtain ⟨x, y, r, rfl, hz⟩ := zi_ic_inv hn
    split at hz <;> cases hz
  | ifnull off => simp only [zi_nx] at hn; rcases zi_nul_inv hn with ⟨r, rfl, hz⟩ | ⟨x, r, rfl, hz⟩ <;> cases hz
  | ifnonnull off => simp only [zi_nx] at hn; rcases zi_nnl_inv hn with ⟨r, rfl, hz⟩ | ⟨x, r, rfl, hz⟩ <;> cases hz
  | tableswitch d lo hi offs => simp only [zi_nx] at hn; obtain ⟨x, r, rfl, hz⟩ := zi_sw_inv hn; cases hz
  | lookupswitch d ps => simp only [zi_nx] at hn; obtain ⟨x, r, rfl, hz⟩ := zi_sw_inv hn; cases hz
  | ireturn => simp only [zi_nx] at hn; obtain ⟨x, -, -, hz⟩ := zi_ri_inv hn; cases hz
  | lreturn => simp only [zi_nx] at hn; obtain ⟨x, -, hz⟩ := zi_rl_inv hn; cases hz
  | areturn => simp only [zi_nx] at hn; obtain ⟨x, -, -, hz⟩ := zi_ra_inv hn; cases hz
  | return_ => simp only [zi_nx] at hn; obtain ⟨-, hz⟩ := zi_rv_inv hn; cases hz
  | _ =>
    simp only [zi_nx] at hn
    first
      | cases hn
      | (unfold zi_ldi at hn; split at hn <;> cases hn)
      | (unfold zi_ldl at hn; split at hn <;> cases hn)
      | (unfold zi_lda at hn; split at hn <;> cases hn)
      | (unfold zi_sti at hn; split at hn <;> cases hn)
      | (unfold zi_stl at hn; split at hn <;> cases hn)
      | (unfold zi_sta at hn; split at hn <;> cases hn)
      | (unfold zi_inc at hn; split at hn <;> cases hn)
      | (unfold zi_b2 at hn; split at hn <;> cases hn)
      | (unfold zi_l2 at hn; split at hn <;> cases hn)
      | (unfold zi_lc at hn; split at hn <;> cases hn)
      | (unfold zi_u1 at hn; split at hn <;> cases hn)
      | (unfold zi_pp at hn; split at hn <;> cases hn)
      | (unfold zi_dup at hn; split at hn <;> cases hn)
      | (unfold zi_dup2 at hn; split at hn <;> cases hn)
      | (unfold zi_new at hn; cases hn)
      | (unfold zi_d2 at hn; split at hn <;> (try split at hn) <;> cases hn)
      | (unfold zi_dl2 at hn; split at hn <;> (try split at hn) <;> cases hn)
      | (unfold zi_gf at hn; split at hn <;> (try split at hn) <;> cases hn)
      | (unfold zi_pf at hn; split at hn <;> (try split at hn) <;> cases hn)
      | (unfold zi_ial at hn; split at hn <;> (try split at hn) <;> cases hn)
      | (unfold zi_ias at hn; split at hn <;> (try split at hn) <;> cases hn)
      | (unfold zi_lal at hn; split at hn <;> (try split at hn) <;> cases hn)
      | (unfold zi_las at hn; split at hn <;> (try split at hn) <;> cases hn)
      | (unfold zi_aal at hn; split at hn <;> (try split at hn) <;> cases hn)
      | (unfold zi_aas at hn; split at hn <;> (try split at hn) <;> cases hn)
      | (unfold zi_aln at hn; split at hn <;> (try split at hn) <;> cases hn)
      | (unfold zi_na at hn; split at hn <;> (try split at hn) <;> cases hn)
      | (unfold zi_mna at hn; split at hn <;> (try split at hn) <;> cases hn)
end ZX
