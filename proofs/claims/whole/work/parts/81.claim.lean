/-! THE CLAIM OUT OF ONE WALK OF THE LAW'S BODY. Your part is whole_start (and what it stands on); all else here is the same for every law, but numbers. -/
def R_law : String := "LoopRoundsLaw"
def lw_P (b : Addr) (xs : List Int32) (args : Array Value) (s : State) : Prop := args = #[.ref b] ∧ s.IntsAt b xs ∧ xs.length ≤ 3584 ∧ (Jvm.Cond.and given_1 narrow_1).before args s = true
def lw_Q (_ : Array Value) (s : State) (o : Outcome) (t : State) : Prop := o = .returned (some (.int 1)) ∧ Framed s o t [] 600000 7302250
def lw_Z (below : List Frame) (a : Array Value) (s : State) : State → Prop := fun t => ∃ o, t.status = .running ∧ Ended t below o ∧ lw_Q a s o t
/-- the law's own end, with 1 on the stack, nothing written that was there before, its room as the claim has it -/
theorem lw_ret {p : Program} {l : Launch} {e : Env} {s : State} {m : MethodId} {below : List Frame} {meth : Method} {c : Code} {b : Nat} (hx : p.tables.exec = Jvm.exec) (hb : c.code = code) (hr : meth.sig.returnType = ret) (hlocks : meth.locks = false) {pc : Nat} {H : Heap} {ls : Array Slot} (hdg : decode code pc = .ok (.ireturn, 1)) : W p l e room_1 s m #[Value.ref b] below meth c H [] 600000 7302250 (lw_Z below #[Value.ref b] s) (F0 m pc ls [.int 1]) := by
  intro T hT X
  obtain ⟨fs, hret, hrun, hended, hW, hframe⟩ := X.leave (v := some (.int 1)) (hlocks := hlocks) (fun h => by rw [hr] at h; cases h)
  have hmeth' : T.vm.method? m = some meth := X.method'
  refine ⟨T.setFrames fs, ?_, .returned (some (.int 1)), hrun, hended, rfl, ⟨_, rfl⟩, hW, hframe⟩
  jvm_step X.here [X.here.top, hx, hb, hdg, hmeth', hr, ret, narrow_b1]
  (try refine ⟨rfl, ?_⟩); (try refine ⟨rfl, ?_⟩)
  first | (intro acts; rw [hret _ acts rfl rfl rfl]) | rw [hret _ _ rfl rfl rfl]
  exact Steps.refl _
/-- what holds at the law's entry: the machine, the code, the tables' words (any of lw_tbl by 'hts w (by decide +kernel)'), the script of L ints xs at the cell b, what the Statement gives of the start (any of its parts by flat_of_before) -/
def lw_At (p : Program) (s : State) (m : MethodId) (meth : Method) (c : Code) (b L : Nat) (xs : Nat → Int32) : Prop :=
  p.tables.exec = Jvm.exec ∧ c.code = code ∧ meth.sig.returnType = ret ∧ c.maxLocals = 4 ∧ s.vm.findClass R_law = some m.cls ∧ (∀ w ∈ lw_tbl, w.before #[Value.ref b] s = true) ∧ va_X b L xs s s.heap ∧ b < s.heap.size ∧ meth.name = "law" ∧ meth.locks = false ∧ (Jvm.Cond.and given_1 narrow_1).before #[Value.ref b] s = true
theorem zi_T9_cd : zi_cd zi_T 9 = code := by rfl
theorem zi_T9_mx : zi_mx zi_T 9 = 4 := by rfl
theorem zi_T9_yy : zi_yy zi_T 9 = x := by rfl
theorem zi_T9_rm : zi_rm zi_T 9 = room_1 := by rfl
theorem zi_T9_mc : zi_mc zi_T 9 = 600000 ∧ zi_ms zi_T 9 = 7302250 := ⟨by rfl, by rfl⟩
theorem zi_known {s : State} {args : Array Value} (hts : ∀ w ∈ zi_gw, w.before args s = true) : ∀ c, c < 9 → ∃ q : ClassId × (Nat → Nat), u_Kn s (zi_q c).1 (zi_q c).2.1 (zi_q c).2.2 q.1 q.2 := by
  have key : ∀ c, (h : c < 9) → (∃ n, (Cond.instantiable (zi_q c).1 n).before args s = true) → ∃ q : ClassId × (Nat → Nat), u_Kn s (zi_q c).1 (zi_q c).2.1 (zi_q c).2.2 q.1 q.2 := fun c h hi => by
    obtain ⟨n, hn⟩ := hi
    obtain ⟨cC, iS, hK⟩ := u_known hts (zi_q_in h) hn
    exact ⟨(cC, iS), hK⟩
  have hin : ∀ w, (decide (w ∈ lw_tbl) && goodWord w) = true → w.before args s = true := fun w hw => hts w (by
    simp only [Bool.and_eq_true, decide_eq_true_eq] at hw
    exact List.mem_filter.mpr hw)
  intro c hc
  match c, hc with
  | 0, h => exact key 0 h ⟨5, hin (.instantiable RX0 5) (by decide +kernel)⟩
  | 1, h => exact key 1 h ⟨4, hin (.instantiable RX1 4) (by decide +kernel)⟩
  | 2, h => exact key 2 h ⟨9, hin (.instantiable RX2 9) (by decide +kernel)⟩
  | 3, h => exact key 3 h ⟨3, hin (.instantiable RX3 3) (by decide +kernel)⟩
  | 4, h => exact key 4 h ⟨6, hin (.instantiable RX4 6) (by decide +kernel)⟩
  | 5, h => exact key 5 h ⟨4, hin (.instantiable RX5 4) (by decide +kernel)⟩
  | 6, h => exact key 6 h ⟨2, hin (.instantiable RX6 2) (by decide +kernel)⟩
  | 7, h => exact key 7 h ⟨9, hin (.instantiable RX7 9) (by decide +kernel)⟩
  | 8, h => exact key 8 h ⟨33, hin (.instantiable RX8 33) (by decide +kernel)⟩
theorem zi_arr1 {s : State} {args : Array Value} {ty : FieldType} (h : (Cond.arrayClass ty).before args s = true) : ∃ c : ClassId, ArrOfT s c ty ∧ s.vm.findClass ("[" ++ ty.toString) = some c := by
  obtain ⟨c, k, comp, h1, h2, h3⟩ := Cond.arrayClass_spec h
  exact ⟨c, fun n z => ⟨fun k h => (by cases h), k, h2, comp, h3⟩, h1⟩
theorem zi_arr2 {s : State} {args : Array Value} {C : String} (h : (Cond.arrayOver (.object C)).before args s = true) : ∃ c : ClassId, ArrOfT s c (.object C) ∧ va_RA s c (.object C) := by
  obtain ⟨comp, c, k, h1, -, h3, h4, h5⟩ := Cond.arrayOver_spec h
  exact ⟨c, fun n z => ⟨fun k h => (by cases h), k, h3, comp, h4⟩, k, comp, h3, h4, h1, h5⟩
theorem zi_arr3 {s : State} {args : Array Value} {t : FieldType} (h : (Cond.arrayOver (.array t)).before args s = true) : ∃ c : ClassId, ArrOfT s c (.array t) ∧ s.vm.findClass ("[" ++ (FieldType.array t).toString) = some c := by
  obtain ⟨comp, c, k, h1, -, h3, h4, h5⟩ := arrayOverA_spec h
  exact ⟨c, fun n z => ⟨fun k h => (by cases h), k, h3, comp, h4⟩, h5⟩
theorem zi_tau {s : State} {args : Array Value} (hts : ∀ w ∈ lw_tbl, w.before args s = true) : ∃ τ : Nat → ClassId, ∀ (k : Nat) (q : ClassId × FieldType), (zi_tys τ)[k]? = some q → ArrOfT s q.1 q.2 ∧ va_RA s q.1 q.2 := by
  obtain ⟨c0, a0, b0⟩ := zi_arr1 (hts (.arrayClass .int) (by decide +kernel))
  obtain ⟨c1, a1, b1⟩ := zi_arr1 (hts (.arrayClass .long) (by decide +kernel))
  obtain ⟨c2, a2, b2⟩ := zi_arr2 (hts (.arrayOver (.object "LoopRounds$Sheet")) (by decide +kernel))
  obtain ⟨c3, a3, b3⟩ := zi_arr2 (hts (.arrayOver (.object "LoopRounds$Round")) (by decide +kernel))
  obtain ⟨c4, a4, b4⟩ := zi_arr3 (hts (.arrayOver (.array .int)) (by decide +kernel))
  obtain ⟨c5, a5, b5⟩ := zi_arr3 (hts (.arrayOver (.array .long)) (by decide +kernel))
  refine ⟨fun k => match k with
    | 0 => c0
    | 1 => c1
    | 2 => c2
    | 3 => c3
    | 4 => c4
    | _ => c5, fun k q hq => ?_⟩
  match k, hq with
  | 0, hq => cases hq; exact ⟨a0, b0⟩
  | 1, hq => cases hq; exact ⟨a1, b1⟩
  | 2, hq => cases hq; exact ⟨a2, b2⟩
  | 3, hq => cases hq; exact ⟨a3, b3⟩
  | 4, hq => cases hq; exact ⟨a4, b4⟩
  | 5, hq => cases hq; exact ⟨a5, b5⟩
  | k + 6, hq => cases hq
theorem zi_usable {s : State} {b : Nat} (hgv : (Jvm.Cond.and given_1 narrow_1).before #[Value.ref b] s = true) (hts : ∀ w ∈ lw_tbl, w.before #[Value.ref b] s = true) : ∃ t0 t1 : Nat, va_Z "LoopRounds" "USES" "[I" (.ref t0) (zi_A s.heap.size) s s.heap ∧ va_Z "LoopRounds" "MAKES" "[I" (.ref t1) (zi_A s.heap.size) s s.heap ∧ va_T .int t0 5 (fun j => .int (zi_U j)) (zi_A s.heap.size) s s.heap ∧ va_T .int t1 5 (fun j => .int (zi_K j)) (zi_A s.heap.size) s s.heap := by
  have hs := flat_of_before _ hgv
  have hA : ∀ a : Nat, a < s.heap.size → ¬ zi_A s.heap.size a := fun a h => Nat.not_le.mpr h
  obtain ⟨t0, e0, v0⟩ := va_Tof (tm := .static "LoopRounds" "USES" "[I") (ty := .int) (N := 5) (f := fun j => .int (zi_U j)) (A := zi_A s.heap.size) (by omega) (hs (.arrayOf (.static "LoopRounds" "USES" "[I") .int) (by decide +kernel)) (va_eqt (hs (.eq (.length (.static "LoopRounds" "USES" "[I")) (.int 5)) (by decide +kernel))) (fun j hj => by
    match j, hj with
    | 0, _ => exact va_eqt (hs (.eq (.elem (.static "LoopRounds" "USES" "[I") (.int 0)) (.int 1)) (by decide +kernel))
    | 1, _ => exact va_eqt (hs (.eq (.elem (.static "LoopRounds" "USES" "[I") (.int 1)) (.int 1)) (by decide +kernel))
    | 2, _ => exact va_eqt (hs (.eq (.elem (.static "LoopRounds" "USES" "[I") (.int 2)) (.int 2)) (by decide +kernel))
    | 3, _ => exact va_eqt (hs (.eq (.elem (.static "LoopRounds" "USES" "[I") (.int 3)) (.int 0)) (by decide +kernel))
    | 4, _ => exact va_eqt (hs (.eq (.elem (.static "LoopRounds" "USES" "[I") (.int 4)) (.int 1)) (by decide +kernel))) hA
  obtain ⟨t1, e1, v1⟩ := va_Tof (tm := .static "LoopRounds" "MAKES" "[I") (ty := .int) (N := 5) (f := fun j => .int (zi_K j)) (A := zi_A s.heap.size) (by omega) (hs (.arrayOf (.static "LoopRounds" "MAKES" "[I") .int) (by decide +kernel)) (va_eqt (hs (.eq (.length (.static "LoopRounds" "MAKES" "[I")) (.int 5)) (by decide +kernel))) (fun j hj => by
    match j, hj with
    | 0, _ => exact va_eqt (hs (.eq (.elem (.static "LoopRounds" "MAKES" "[I") (.int 0)) (.int 1)) (by decide +kernel))
    | 1, _ => exact va_eqt (hs (.eq (.elem (.static "LoopRounds" "MAKES" "[I") (.int 1)) (.int 2)) (by decide +kernel))
    | 2, _ => exact va_eqt (hs (.eq (.elem (.static "LoopRounds" "MAKES" "[I") (.int 2)) (.int 1)) (by decide +kernel))
    | 3, _ => exact va_eqt (hs (.eq (.elem (.static "LoopRounds" "MAKES" "[I") (.int 3)) (.int 1)) (by decide +kernel))
    | 4, _ => exact va_eqt (hs (.eq (.elem (.static "LoopRounds" "MAKES" "[I") (.int 4)) (.int 0)) (by decide +kernel))) hA
  exact ⟨t0, t1, va_Zof (hts (.laysStatic "LoopRounds" "USES" "[I") (by decide +kernel)) (hts (.initialized "LoopRounds") (by decide +kernel)) e0 hA, va_Zof (hts (.laysStatic "LoopRounds" "MAKES" "[I") (by decide +kernel)) (hts (.initialized "LoopRounds") (by decide +kernel)) e1 hA, v0, v1⟩
theorem zi_nw_of {s : State} {b : Nat} (hts : ∀ w ∈ lw_tbl, w.before #[Value.ref b] s = true) : ∀ w ∈ zi_nw, va_Nw w s := by
  intro w hw
  obtain ⟨h1, h2⟩ := List.mem_filter.mp hw
  have h := hts w h1
  cases w with
  | fieldLinkNest a b c d e f => exact va_tabs rfl rfl h
  | methodLinkNest a b c d => exact va_tabs rfl rfl h
  | arrayOver ty =>
    cases ty with
    | object C => exact h
    | array t => exact h
    | _ => simp [zi_isN] at h2
  | _ => simp [zi_isN] at h2
/-- from the entry, for every script of at most 3584 ints, the law comes to its end with true -/
theorem whole_start {p : Program} {e : Env} {s : State} {m : MethodId} {below : List Frame} {meth : Method} {c : Code} (l : Launch) (hflags : l.flags = flags0) {b L : Nat} {xs : Nat → Int32} (hL : L ≤ 3584) (C0 : lw_At p s m meth c b L xs) : W p l e room_1 s m #[Value.ref b] below meth c s.heap [] 0 0 (lw_Z below #[Value.ref b] s) (entryFrame m ([Value.ref b] : List Value).toArray 4) := by
  obtain ⟨hx, hb, hr, hml, hown, hts, hX, hbl, hname, hlocks, hgv⟩ := C0
  have hgw : ∀ w ∈ zi_gw, w.before #[Value.ref b] s = true := fun w hw => hts w (List.mem_filter.mp hw).1
  obtain ⟨τ, hτ⟩ := zi_tau hts
  obtain ⟨t0, t1, z0, z1, v0, v1⟩ := zi_usable hgv hts
  have hkn := zi_known hgw
  have hch : ∀ c, ∃ q : ClassId × (Nat → Nat), c < 9 → u_Kn s (zi_q c).1 (zi_q c).2.1 (zi_q c).2.2 q.1 q.2 := fun c => by
    by_cases h : c < 9
    · obtain ⟨q, hq⟩ := hkn c h
      exact ⟨q, fun _ => hq⟩
    · exact ⟨((hkn 0 (by omega)).choose), fun h2 => absurd h2 h⟩
  obtain ⟨D, hD⟩ := Classical.axiomOfChoice hch
  have hK : va_K (fun c => (D c).1, fun c => (D c).2) vwCl (zi_tys τ) s := by
    refine ⟨fun c q hq => ?_, hτ⟩
    have hc : c < 9 := (List.getElem?_eq_some_iff.mp hq).1
    have h1 := zi_q_at hc
    rw [hq] at h1
    cases h1
    exact hD c hc
  obtain ⟨scr, s1, s2, s3, s4, s5⟩ := hX
  have hT2 : va_T .int b L (fun j => .int (xs j)) (zi_A s.heap.size) s s.heap := ⟨scr, s1, s2, s3, by omega, by rw [s4], s5, Nat.not_le.mpr hbl⟩
  obtain ⟨σ, e0, e1, e2⟩ : ∃ σ : Nat → Nat, σ 0 = t0 ∧ σ 1 = t1 ∧ ∀ q, σ (q + 2) = b := ⟨fun q => match q with
    | 0 => t0
    | 1 => t1
    | _ => b, rfl, rfl, fun _ => rfl⟩
  have hS : zi_S (L, xs) s.heap.size τ σ (fun c => (D c).1) (fun c => (D c).2) s := by
    refine ⟨hK, by rw [e0]; exact z0, by rw [e1]; exact z1, fun q => ?_, zi_nw_of hts⟩
    match q with
    | 0 => rw [e0]; exact v0
    | 1 => rw [e1]; exact v1
    | q + 2 => rw [e2]; exact hT2
  have hcx : zi_cx zi_T (L, xs) s.heap.size τ σ (fun c => (D c).1) (fun c => (D c).2) 9 p s m #[Value.ref b] meth c := ⟨hx, by rw [zi_T9_cd]; exact hb, by rw [zi_T9_mx]; exact hml, by rw [zi_T9_yy]; exact hown, hgw, by rw [zi_T9_yy]; exact hname, hS, Nat.le_refl _⟩
  obtain ⟨n, r, M', hex, hr1⟩ : zi_G (L, xs) 0 0 9 (zi_bk zi_T 9 0) [some (.float (UInt32.ofNat 2))] [] zMe (fun r _ => r = some (.int 1)) := zi_law hL
  subst hr1
  have hSd := zi_sound (T := zi_T) (sc := (L, xs)) (a0 := s.heap.size) (τ := τ) (σ := σ) (dC := fun c => (D c).1) (dI := fun c => (D c).2) (l := l) zi_hall zi_hpl zi_hz n
  have hl := lv_entry ([.ref b]) (n := 4) (Nat.le_of_ble_eq_true rfl)
  rw [lg_entry_eq]
  generalize (lg_sl ([.ref b]) ++ List.replicate (4 - (lg_sl ([.ref b])).length) Slot.unset).toArray = ls at hl ⊢
  have hl2 : lv_has ls (zi_mx zi_T 9) (zi_lp s.heap.size σ 0 [some (.float (UInt32.ofNat 2))]) := by
    rw [zi_T9_mx]
    have e : zi_lp s.heap.size σ 0 [some (.float (UInt32.ofNat 2))] = [(0, .ref b)] := by
      show [(0, Value.ref (σ 2))] = _
      rw [show σ 2 = b from e2 0]
    rw [e]
    exact hl
  have hW0 : zi_W s.heap.size τ (fun c => (D c).1) (fun c => (D c).2) zMe s.heap := ⟨⟨rfl, fun _ _ => rfl⟩, fun k q h => by cases h⟩
  have hchk := zi_hall 9 0
  rw [zi_hz 9] at hchk
  have key := hSd 9 _ _ _ _ _ _ _ _ hex p e s m #[Value.ref b] below meth c s.heap [] ls 0 (lw_Z below #[Value.ref b] s) hcx hchk hW0 va_S.rf hl2 (Nat.zero_le _) (Nat.zero_le _) (fun H' locs' ls' pc' cu' su' op hW' hS' hd hok h1 h2 => by
    rw [zi_T9_mc.1] at h1
    rw [zi_T9_mc.2] at h2
    rw [zi_T9_cd] at hd
    rw [zi_T9_rm]
    rcases hok with ⟨rfl, -⟩ | ⟨rfl, y, hy, -⟩ | ⟨rfl, v, hv, hv2, -⟩ | ⟨rfl, hv, -⟩
    · exact va_forget (fun q hq => hS'.2.2 q hq) (W.widen h1 h2 (lw_ret hx hb hr hlocks hd))
    · cases hy
    · cases hv
      rcases hv2 with hv2 | ⟨x, hv2⟩ <;> cases hv2
    · cases hv)
  rw [zi_T9_rm] at key
  exact key
set_option maxHeartbeats 4000000 in
theorem lw_walk (l : Launch) (hflags : l.flags = flags0) (b : Addr) (xs : List Int32) : MetFree l x (headSpec (Jvm.Cond.code x code maxLocals ret :: tables_1) room_1) (lw_P b xs) (fun _ _ _ _ _ => True) lw_Q := by
  refine MetFree.of_bodyS (code := code) (maxLocals := maxLocals) (ret := ret) (by decide) ?_ ?_
  · intro args s m h hn
    obtain ⟨meth, c, h1, h2, h3, h4, h5, h6, -, -⟩ := Cond.code_spec hn (atoms_spec (ws := Jvm.Cond.code x code maxLocals ret :: tables_1) h _ List.mem_cons_self)
    exact ⟨meth, c, h1, h2, h3, h4, h5, h6⟩
  · intro p e s m args below meth c s₁ B hml0 hP _
    obtain ⟨rfl, hx, hbd, hgv⟩ := hP
    obtain ⟨scr, harrAt, hlist, hof, hsmall⟩ := hx
    obtain ⟨hcb, hkn, -, -⟩ := State.arrayAt?_spec harrAt
    have hown : s.vm.findClass R_law = some m.cls := findClass_of_methodNamed B.named
    have hts0 : ∀ c ∈ (Jvm.Cond.code x code maxLocals ret :: tables_1), c.before #[Value.ref b] s = true := atoms_spec (ws := Jvm.Cond.code x code maxLocals ret :: tables_1) B.pre
    have hts : ∀ w ∈ lw_tbl, w.before #[Value.ref b] s = true := k2_hts_sels lw_privs (fun w hw => hts0 w (List.mem_cons_of_mem _ hw)) lw_privs_ok
    have hml : c.maxLocals = 4 := B.maxLocals_eq (hts0 _ List.mem_cons_self)
    have X₀ : Stand p l e room_1 s m #[Value.ref b] below meth c s₁ [] 0 0 := Stand.of_body B
    have hh0 : s₁.heap = s.heap := by rw [B.state]; rfl
    have hsz : scr.slots.size = xs.length := by rw [← Array.length_toList, hlist, List.length_map]
    have hval : ∀ j : Nat, j < xs.length → scr.slots[j]? = some (.int (xs.getD j 0)) := fun j hj => by
      rw [← Array.getElem?_toList, hlist]
      simp [hj]
    have hbl : b < s.heap.size := (Array.getElem?_eq_some_iff.mp hcb).1
    have hX : va_X b xs.length (fun j => xs.getD j 0) s s.heap := ⟨scr, hcb, hof, hkn, hsz, hval⟩
    have K : W p l e room_1 s m #[Value.ref b] below meth c s₁.heap [] 0 0 (lw_Z below #[Value.ref b] s) (entryFrame m ([Value.ref b] : List Value).toArray 4) := by
      rw [hh0]
      exact whole_start l hflags hbd ⟨B.exec, B.bytes, B.returns, hml, hown, hts, hX, hbl, (name_of_methodNamed B.named B.method).1, B.notSynchronized, hgv⟩
    obtain ⟨t, a1, o, b1, b2, b3⟩ := K s₁ rfl X₀
    exact ⟨t, o, a1, b1, b2, b3⟩
theorem lw_pre_spec {args : Array Value} {s : State} (h : (Jvm.Cond.and given_1 narrow_1).before args s = true) (hr : rest_1_c.before args s = true) : ∃ (b : Addr) (xs : List Int32), lw_P b xs args s := by
  have hs := flat_of_before _ h
  have hq := flat_of_before _ hr
  have hc : (Cond.count 1).before args s = true := hs _ (by decide +kernel)
  have harr : (Cond.arrayOf (.arg 0) .int).before args s = true := hs _ (by decide +kernel)
  have hle : (Cond.le (.length (.arg 0)) (.int 3584)).before args s = true := hs _ (by decide +kernel)
  have hlen : (Cond.isInt (.length (.arg 0))).before args s = true := hq _ (by decide +kernel)
  have hall : (Cond.all (.arg 0) (.isInt (.elem (.arg 0) (.index 0)))).before args s = true := hq _ (by decide +kernel)
  obtain ⟨b, xs, hb, hx⟩ := State.ints_of_pre rfl harr hlen hall
  have hsm : xs.length < 2 ^ 31 := hx.choose_spec.2.2.2
  have hev : (Term.length (.arg 0)).eval args s none [] s = some (.int xs.length.toInt32) := hx.length_eval hb
  have hv := Cond.le_ints hev (show (Term.int 3584).eval args s none [] s = some (.int 3584) from rfl)
  have hd : xs.length.toInt32 ≤ 3584 := by
    simpa [Cond.before, Cond.holds, hv] using hle
  have hN : xs.length ≤ 3584 := (Int32.ofNat_le_ofNat hsm (by decide)).mp (show Int32.ofNat xs.length ≤ Int32.ofNat 3584 from hd)
  exact ⟨b, xs, Cond.one_arg hc (show args[0]? = some (.ref b) from hb), hx, hN, h⟩
theorem lw_comes (l : Launch) (hflags : l.flags = flags0) : Comes l x (Jvm.Cond.code x code maxLocals ret :: tables_1) room_1 (fun tb e args s => Calls_1 tb e args s ∧ rest_1 tb e args s ∧ Pre_1 tb e args s)
    (fun _ _ args s o t => lw_Q args s o t) := by
  intro p e ha hc hk s m args below hf hfit hheap happ hpre
  obtain ⟨b, xs, hP⟩ := lw_pre_spec hpre.2.2 hpre.2.1
  obtain ⟨k, o, h1, h2, h3, hQ⟩ := lw_walk l hflags b xs p e ha hc hk s m args below hf ((Spec.applies_iff_loose hf).mp happ).1 hP trivial
  exact ⟨k, o, h1, h2, h3, hQ⟩
theorem lw_frame {s t : State} {o : Outcome} {args : Array Value} (h : Framed s o t [] 600000 7302250) :
    Framed s o t (fieldLocs frame_1_writes args s ++ arrayLocs frame_1_arrays args s ++ staticLocs frame_1_statics s) 600000 7302250 := h
theorem lw_limb (L : Cond) (hL : ∀ (args : Array Value) (s t : State), L.after args s (.returned (some (.int 1))) t = true) :
    ArmFor flags0 classFile x code maxLocals ret World_1 tables_1 room_1 Calls_1 rest_1 Pre_1
      (fun tb e a s o t => postC L tb e a s o t ∧ Framed s o t (fieldLocs frame_1_writes a s ++ arrayLocs frame_1_arrays a s ++ staticLocs frame_1_statics s) 600000 7302250) := by
  intro l hflags _ _ p e ha hc hk s m args below hf hfit hheap happ hpre
  obtain ⟨k, o, h1, h2, h3, rfl, hF⟩ := lw_comes l hflags p e ha hc hk s m args below hf hfit hheap happ hpre
  exact ⟨k, _, h1, h2, h3, hL args s _, lw_frame hF⟩
theorem i_vc : Claimed_1_1 ∧ Claimed_1_2 := ⟨lw_limb limb_1_1 (fun args s t => by simp [limb_1_1, Cond.after, Cond.holds, Cond.value]), lw_limb limb_1_2 (fun args s t => Cond.after_iff.mpr (by
  first | (rw [show limb_1_2 = Cond.eq .result (.int 1) from rfl, Cond.eq_ints (x := 1) (y := 1) rfl rfl]; simp; done) | (simp [limb_1_2, Cond.value, Term.eval]; done)))⟩
