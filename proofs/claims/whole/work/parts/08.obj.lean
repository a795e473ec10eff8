/-! fields, and what makes cells, in the world of the interpreter -/
theorem zi_fs_setI {a0 ci n : Nat} {I : Nat → Int32} {R : Nat → Option Nat} {k : Nat} {x : Int32} (h : zi_tg ci k ≠ 2) : zi_fs a0 ci n (va_up I k x) R = (zi_fs a0 ci n I R).set k (.int x) := by
  apply List.ext_getElem?
  intro i
  by_cases hi : i < n
  · rw [zi_fs_at hi]
    by_cases hk : i = k
    · subst hk
      rw [List.getElem?_set_self (by rw [zi_fs_len]; exact hi)]
      simp only [va_up, if_pos]
      congr 1
      unfold zi_fv
      split <;> simp_all
    · rw [List.getElem?_set_ne (fun e => hk e.symm), zi_fs_at hi]
      simp only [va_up, if_neg hk]
  · rw [List.getElem?_eq_none (by rw [zi_fs_len]; omega), List.getElem?_eq_none (by rw [List.length_set, zi_fs_len]; omega)]
theorem zi_fs_setR {a0 ci n : Nat} {I : Nat → Int32} {R : Nat → Option Nat} {k : Nat} {r : Option Nat} (h : zi_tg ci k = 2) : zi_fs a0 ci n I (va_up R k r) = (zi_fs a0 ci n I R).set k (va_rf (zi_ad a0 r)) := by
  apply List.ext_getElem?
  intro i
  by_cases hi : i < n
  · rw [zi_fs_at hi]
    by_cases hk : i = k
    · subst hk
      rw [List.getElem?_set_self (by rw [zi_fs_len]; exact hi), h]
      simp only [va_up, if_pos]
      rfl
    · rw [List.getElem?_set_ne (fun e => hk e.symm), zi_fs_at hi]
      simp only [va_up, if_neg hk]
  · rw [List.getElem?_eq_none (by rw [zi_fs_len]; omega), List.getElem?_eq_none (by rw [List.length_set, zi_fs_len]; omega)]
section ZO
variable {p : Program} {l : Launch} {e : Env} {R : Room} {s : State} {m : MethodId} {args : Array Value} {below : List Frame} {meth : Method} {c : Code} {H : Heap} {locs : List Loc} {cells slots : Nat} {Q : State → Prop}
variable {cc : ByteArray} {pc : Nat} {ls : Array Slot} {rest : List Value} {D : va_G} {cl : List vw_C} {a : Nat} {tys : List (ClassId × FieldType)} {ws : va_W}
/-- putfield, with the heap's size -/
theorem zi_vput (hexec : p.tables.exec = Jvm.exec) (hb : c.code = cc) {own ref C : String} {T : u_T} {N ci index : Nat} {Ts : List Cond} (hts : ∀ w ∈ Ts, w.before args s = true) (hin : ∀ w ∈ u_ws C T N, w ∈ Ts) (ty0 : Nat → FieldType) (hty : ∀ k, k < N → parseFieldDescriptor (T k).2.2.1 = some (ty0 k)) (hnm : ∀ a, a < N → ∀ b, b < N → a ≠ b → (T a).2.1 ≠ (T b).2.1) (hown : s.vm.findClass own = some m.cls) (hK : va_K D cl tys s) (hP : va_P D cl ws H) (q0 : Nat) {fs : List Value} (he : ws[q0]? = some (a, .inr (ci, fs))) (hc : cl[ci]? = some (C, T, N)) (k : Nat) (hk : k < N) (hlink : (Cond.fieldLink own index ref (T k).2.1 (T k).2.2.1).before args s = true) (hsame : ∀ x, s.fieldFound? (T k).1 (T k).2.1 (T k).2.2.1 = some x → s.fieldFound? ref (T k).2.1 (T k).2.2.1 = some x)
    (hfin : (T k).2.2.2 = true → meth.name = "<init>" ∧ (T k).1 = own) {ty : FieldType} {v : Value} (hd : parseFieldDescriptor (T k).2.2.1 = some ty) (hn : narrow ty v = v) (hfit : fits ty v = true) (hl : k < fs.length)
    (hdg : decode cc pc = .ok (.putfield index, 3)) (kk : ∀ (H1 : Heap) (i : Nat), va_at D cl (a, .inr (ci, fs.set k v)) H1 → H1.size = H.size → (∀ q : Nat, q ≠ a → H1[q]? = H[q]?) → W p l e R s m args below meth c H1 (locs ++ [⟨a, i⟩]) cells slots Q (F0 m (pc + 3) ls rest)) : W p l e R s m args below meth c H locs cells slots Q (F0 m pc ls (v :: .ref a :: rest)) := by
  have hap := va_apart (own := own) hts hin ty0 hty hnm hK hc
  obtain ⟨r, h1, cell, q1, q2, q3, q4⟩ := hP q0 _ he
  have hr : r = (C, T, N) := Option.some.inj (h1.symm.trans hc)
  subst hr
  obtain ⟨hS, hfc, kC, hkC, hkind⟩ := hK.1 ci _ hc
  obtain ⟨cf, kf, fi, f, hi, hsl⟩ := hS k hk
  have hlay := hts _ (hin _ (u_in_lay hk))
  unfold u_lay at hlay
  have hst := (u_facts hfc hkC (u_lays hts hin hk) hi).1
  by_cases hf : (T k).2.2.2 = true
  · obtain ⟨hin2, hdecl⟩ := hfin hf
    rw [if_pos hf] at hlay
    have hcf : m.cls = cf := by
      obtain ⟨_, _, c', _, _, _, -, -, hf', -, -, -, hown2, -⟩ := Cond.laysFinal_spec hlay
      have e1 : c' = cf := by have := hi.symm.trans hf'; simp at this; exact this.1.symm
      rw [hdecl] at hown2
      rw [← e1]; exact Option.some.inj (hown.symm.trans hown2)
    have h6 := u_fits hfc hkC hkind (Or.inr hlay) hi hd hn hfit
    refine W.putFinK hexec hb hown hlink (hsame _ hi) hst hcf hin2 (by rw [q2]; exact h6) q1 q3 (by rw [hsl]; exact k2_hasslot (q4 k hk)) rfl rfl hdg fun H' e1 e2 e3 => ?_
    rw [hsl] at e1 ⊢
    exact kk H' _ ⟨_, hc, t_OB.to (V := updV (vp_V fs) k v) ⟨_, e1, q2, q3, t_set q4 hap hk v⟩ (fun j _ => vp_updV_set hl v j)⟩ e2 e3
  · rw [if_neg hf] at hlay
    have h6 := u_store hfc hkC hkind hlay hi hd hn hfit
    refine W.putK hexec hb (f := f) ⟨hown, hlink, ⟨_, _, _, hsame _ hi⟩, hst⟩ (by rw [q2]; exact h6) q1 q3 (by rw [hsl]; exact k2_hasslot (q4 k hk)) rfl rfl hdg fun H' e1 e2 e3 => ?_
    rw [hsl] at e1 ⊢
    exact kk H' _ ⟨_, hc, t_OB.to (V := updV (vp_V fs) k v) ⟨_, e1, q2, q3, t_set q4 hap hk v⟩ (fun j _ => vp_updV_set hl v j)⟩ e2 e3
variable {a0 : Nat} {τ : Nat → ClassId} {dC : Nat → ClassId} {dI : Nat → Nat → Nat} {M : zi_M} {σ : Nat → Nat}
theorem zi_fk_spec {own : String} {idx slot : Nat} {l : List Nat} (h : zi_fk own idx slot l = true) : l.getD 0 0 < 9 ∧ l.getD 1 0 = (zi_q (l.getD 0 0)).2.2 ∧ slot < (zi_q (l.getD 0 0)).2.2 ∧ ((zi_q (l.getD 0 0)).2.1 slot).1 = (zi_q (l.getD 0 0)).1 ∧ Cond.fieldLink own idx (zi_q (l.getD 0 0)).1 ((zi_q (l.getD 0 0)).2.1 slot).2.1 ((zi_q (l.getD 0 0)).2.1 slot).2.2.1 ∈ zi_gw := by
  unfold zi_fk at h
  simp only [Bool.and_eq_true, decide_eq_true_eq] at h
  exact ⟨h.1, h.2.1, h.2.2.1, h.2.2.2.1, zi_w_in h.2.2.2.2⟩
theorem zi_t_get (hx : p.tables.exec = Jvm.exec) (hb : c.code = cc) (hts : ∀ w ∈ zi_gw, w.before args s = true) {own : String} (hown : s.vm.findClass own = some m.cls) (hK : va_K (dC, dI) vwCl (zi_tys τ) s) (hW : zi_W a0 τ dC dI M H) {id idx slot tag : Nat} {l' : List Nat} (hid : M.2.1 id = (0, l'.getD 0 0, l'.getD 1 0)) (hfk : zi_fk own idx slot l' = true) (htag : tag = 2 ↔ zi_tg (l'.getD 0 0) slot = 2) (hdg : decode cc pc = .ok (.getfield idx, 3))
    (kk : W p l e R s m args below meth c H locs cells slots Q (F0 m (pc + 3) ls (zi_con a0 σ (zi_fv tag (M.2.2.1 id slot) (M.2.2.2.2 id slot)) :: rest))) : W p l e R s m args below meth c H locs cells slots Q (F0 m pc ls (.ref (a0 + id) :: rest)) := by
  obtain ⟨h1, h2, h3, h4, h5⟩ := zi_fk_spec hfk
  have ha := zi_at hW (id := id) (by rw [hid]; show (0 : Nat) ≠ 9; decide)
  rw [zi_c0 hid] at ha
  refine va_get hx hb hts (zi_q_in h1) hown hK hW.2 id ha (zi_q_at h1) slot h3 (hts _ h5) (fun x hx => by rw [← h4]; exact hx) (zi_fs_at (by rw [h2]; exact h3)) hdg ?_
  rw [← zi_fv_con (σ := σ) htag]
  exact kk
theorem zi_nar_bool {x : Int32} (h : x = 0 ∨ x = 1) : narrow .boolean (.int x) = .int x ∧ fits .boolean (.int x) = true := by
  rcases h with rfl | rfl <;> exact ⟨by decide, by decide⟩
theorem zi_nar_ref {ty : FieldType} (h : ty.isReference = true) (a : Nat) : narrow ty (.ref a) = .ref a ∧ fits ty (.ref a) = true := by
  cases ty <;> simp_all [FieldType.isReference, narrow, fits]
theorem zi_t_putI (hx : p.tables.exec = Jvm.exec) (hb : c.code = cc) (hts : ∀ w ∈ zi_gw, w.before args s = true) {own : String} (hown : s.vm.findClass own = some m.cls) (hK : va_K (dC, dI) vwCl (zi_tys τ) s) (hW : zi_W a0 τ dC dI M H) (hS : va_S (zi_A a0) s.heap H locs) {id idx slot tag : Nat} {l' : List Nat} {x : Int32} (hid : M.2.1 id = (0, l'.getD 0 0, l'.getD 1 0)) (hfk : zi_fk own idx slot l' = true) (htag : zi_tgt (zi_ty (l'.getD 0 0) slot) = tag) (hx2 : tag = 0 ∨ (tag = 1 ∧ (x = 0 ∨ x = 1)))
    (hfin : ((zi_q (l'.getD 0 0)).2.1 slot).2.2.2 = true → meth.name = "<init>" ∧ ((zi_q (l'.getD 0 0)).2.1 slot).1 = own) (hdg : decode cc pc = .ok (.putfield idx, 3))
    (kk : ∀ (H1 : Heap) (locs1 : List Loc), zi_W a0 τ dC dI (M.1, M.2.1, zi_up M.2.2.1 id slot x, M.2.2.2.1, M.2.2.2.2) H1 → va_S (zi_A a0) s.heap H1 locs1 → W p l e R s m args below meth c H1 locs1 cells slots Q (F0 m (pc + 3) ls rest)) : W p l e R s m args below meth c H locs cells slots Q (F0 m pc ls (.int x :: .ref (a0 + id) :: rest)) := by
  obtain ⟨h1, h2, h3, h4, h5⟩ := zi_fk_spec hfk
  have hne : (M.2.1 id).1 ≠ 9 := by rw [hid]; show (0 : Nat) ≠ 9; decide
  have ha := zi_at hW hne
  rw [zi_c0 hid] at ha
  have hnf : narrow (zi_ty (l'.getD 0 0) slot) (.int x) = .int x ∧ fits (zi_ty (l'.getD 0 0) slot) (.int x) = true := by
    generalize zi_ty (l'.getD 0 0) slot = ty at htag
    rcases hx2 with h | ⟨h, hx3⟩
    · have : ty = .int := by cases ty <;> simp_all [zi_tgt]
      subst this
      exact ⟨rfl, rfl⟩
    · have : ty = .boolean := by cases ty <;> simp_all [zi_tgt]
      subst this
      exact zi_nar_bool hx3
  have htg : zi_tg (l'.getD 0 0) slot ≠ 2 := by
    unfold zi_tg
    rw [htag]
    rcases hx2 with h | ⟨h, -⟩ <;> rw [h] <;> decide
  refine zi_vput hx hb hts (zi_q_in h1) (zi_ty (l'.getD 0 0)) (zi_q_ty h1) (zi_q_nm h1) hown hK hW.2 id ha (zi_q_at h1) slot h3 (hts _ h5) (fun x hx => by rw [← h4]; exact hx) hfin (zi_q_ty h1 slot h3) hnf.1 hnf.2 (by rw [zi_fs_len, h2]; exact h3) hdg fun H1 i he z oq => ?_
  refine kk H1 _ (hW.set (hW.lt hne) z ?_ oq rfl rfl (fun i hi => ?_)) (hS.put z oq (Nat.le_add_right _ _))
  · rw [zi_c0 (M := (M.1, M.2.1, zi_up M.2.2.1 id slot x, M.2.2.2.1, M.2.2.2.2)) hid]
    show va_at _ _ (a0 + id, .inr (_, zi_fs _ _ _ (zi_up M.2.2.1 id slot x id) _)) H1
    rw [zi_up_eq, zi_fs_setI htg]
    exact he
  · simp only [zi_c, zi_up_ne _ _ _ hi]
theorem zi_t_putR (hx : p.tables.exec = Jvm.exec) (hb : c.code = cc) (hts : ∀ w ∈ zi_gw, w.before args s = true) {own : String} (hown : s.vm.findClass own = some m.cls) (hK : va_K (dC, dI) vwCl (zi_tys τ) s) (hW : zi_W a0 τ dC dI M H) (hS : va_S (zi_A a0) s.heap H locs) {id idx slot x : Nat} {l' : List Nat} (hid : M.2.1 id = (0, l'.getD 0 0, l'.getD 1 0)) (hfk : zi_fk own idx slot l' = true) (htag : zi_tgt (zi_ty (l'.getD 0 0) slot) = 2) (href : (zi_ty (l'.getD 0 0) slot).isReference = true)
    (hfin : ((zi_q (l'.getD 0 0)).2.1 slot).2.2.2 = true → meth.name = "<init>" ∧ ((zi_q (l'.getD 0 0)).2.1 slot).1 = own) (hdg : decode cc pc = .ok (.putfield idx, 3))
    (kk : ∀ (H1 : Heap) (locs1 : List Loc), zi_W a0 τ dC dI (M.1, M.2.1, M.2.2.1, M.2.2.2.1, zi_up M.2.2.2.2 id slot (some x)) H1 → va_S (zi_A a0) s.heap H1 locs1 → W p l e R s m args below meth c H1 locs1 cells slots Q (F0 m (pc + 3) ls rest)) : W p l e R s m args below meth c H locs cells slots Q (F0 m pc ls (.ref (a0 + x) :: .ref (a0 + id) :: rest)) := by
  obtain ⟨h1, h2, h3, h4, h5⟩ := zi_fk_spec hfk
  have hne : (M.2.1 id).1 ≠ 9 := by rw [hid]; show (0 : Nat) ≠ 9; decide
  have ha := zi_at hW hne
  rw [zi_c0 hid] at ha
  have hnf := zi_nar_ref href (a0 + x)
  have htg : zi_tg (l'.getD 0 0) slot = 2 := by unfold zi_tg; rw [htag]; rfl
  refine zi_vput hx hb hts (zi_q_in h1) (zi_ty (l'.getD 0 0)) (zi_q_ty h1) (zi_q_nm h1) hown hK hW.2 id ha (zi_q_at h1) slot h3 (hts _ h5) (fun x hx => by rw [← h4]; exact hx) hfin (zi_q_ty h1 slot h3) hnf.1 hnf.2 (by rw [zi_fs_len, h2]; exact h3) hdg fun H1 i he z oq => ?_
  refine kk H1 _ (hW.set (hW.lt hne) z ?_ oq rfl rfl (fun i hi => ?_)) (hS.put z oq (Nat.le_add_right _ _))
  · rw [zi_c0 (M := (M.1, M.2.1, M.2.2.1, M.2.2.2.1, zi_up M.2.2.2.2 id slot (some x))) hid]
    show va_at _ _ (a0 + id, .inr (_, zi_fs _ _ _ _ (zi_up M.2.2.2.2 id slot (some x) id))) H1
    rw [zi_up_eq, zi_fs_setR htg]
    exact he
  · simp only [zi_c, zi_up_ne _ _ _ hi]
theorem zi_t_new (hx : p.tables.exec = Jvm.exec) (hb : c.code = cc) (hts : ∀ w ∈ zi_gw, w.before args s = true) {own : String} (hown : s.vm.findClass own = some m.cls) (hK : va_K (dC, dI) vwCl (zi_tys τ) s) (hW : zi_W a0 τ dC dI M H) (hS : va_S (zi_A a0) s.heap H locs) {idx ci : Nat} (hci : ci < 9) (w1 : Cond.classLink own idx (zi_q ci).1 ∈ zi_gw) (w2 : Cond.instantiable (zi_q ci).1 (zi_q ci).2.2 ∈ zi_gw) (w3 : Cond.initialized (zi_q ci).1 ∈ zi_gw) (hdf : ∀ j, j < (zi_q ci).2.2 → defaultValue (zi_ty ci j) = zi_fv (zi_tg ci j) 0 none)
    (hcells : cells + 1 ≤ R.cells) (hslots : slots + (zi_q ci).2.2 ≤ R.slots) (hdg : decode cc pc = .ok (.new idx, 3))
    (kk : ∀ (H1 : Heap), zi_W a0 τ dC dI (zi_born (0, ci, (zi_q ci).2.2) M) H1 → va_S (zi_A a0) s.heap H1 locs → W p l e R s m args below meth c H1 locs (cells + 1) (slots + (zi_q ci).2.2) Q (F0 m (pc + 3) ls (.ref (a0 + M.1) :: rest))) : W p l e R s m args below meth c H locs cells slots Q (F0 m pc ls rest) := by
  have hKn := hK.1 ci _ (zi_q_at hci)
  refine W.newcK hx hb hown (hts _ w1) (hts _ w2) (hts _ w3) rfl hdg hcells hslots hKn.2.1 hW.1.1 fun H1 kC hkC e1 z1 o1 => ?_
  have o2 : ∀ q : Nat, q < H.size → H1[q]? = H[q]? := fun q hq => o1 q (by rw [← hW.1.1]; exact hq)
  have z2 : H1.size = H.size + 1 := by rw [z1, hW.1.1]
  refine kk H1 (hW.born z2 o2 ⟨_, zi_q_at hci, (u_born (zi_ty ci) hts (zi_q_in hci) hKn hkC e1 (zi_q_ty hci)).to (fun j hj => ?_)⟩) (zi_S.born hS z2 o2)
  show _ = vp_V (zi_fs a0 ci (zi_q ci).2.2 (fun _ => 0) (fun _ => none)) j
  have hj2 : j < (zi_q ci).2.2 := hj
  have e2 := zi_fs_at (a0 := a0) (ci := ci) (I := fun _ => 0) (R := fun _ => none) hj2
  rw [hdf j hj2]
  unfold vp_V
  rw [List.getD_eq_getElem?_getD, e2]
  rfl
end ZO
