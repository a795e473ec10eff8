/-! instructions that read or write memory, in the world of the interpreter -/
section ZM
variable {p : Program} {l : Launch} {e : Env} {R : Room} {s : State} {m : MethodId} {args : Array Value} {below : List Frame} {meth : Method} {c : Code} {H : Heap} {locs : List Loc} {cells slots : Nat} {Q : State → Prop}
variable {cc : ByteArray} {pc : Nat} {ls : Array Slot} {rest : List Value} {a0 : Nat} {τ : Nat → ClassId} {dC : Nat → ClassId} {dI : Nat → Nat → Nat} {M : zi_M}
theorem zi_c1 {id : Nat} (h1 : (M.2.1 id).1 = 1) (h2 : (M.2.1 id).2.1 = 0) : zi_c a0 τ M id = .inl (τ 0, (M.2.1 id).2.2, .inl (M.2.2.1 id)) := by
  have e : M.2.1 id = (1, 0, (M.2.1 id).2.2) := Prod.ext h1 (Prod.ext h2 rfl)
  unfold zi_c
  rw [e]
  rfl
theorem zi_c2 {id : Nat} (h1 : (M.2.1 id).1 = 2) (h2 : (M.2.1 id).2.1 = 1) : zi_c a0 τ M id = .inl (τ 1, (M.2.1 id).2.2, .inr (.inl (M.2.2.2.1 id))) := by
  have e : M.2.1 id = (2, 1, (M.2.1 id).2.2) := Prod.ext h1 (Prod.ext h2 rfl)
  unfold zi_c
  rw [e]
  rfl
theorem zi_c3 {id : Nat} (h1 : (M.2.1 id).1 = 3) : zi_c a0 τ M id = .inl (τ (M.2.1 id).2.1, (M.2.1 id).2.2, .inr (.inr (.inr (.inr (fun j => zi_ad a0 (M.2.2.2.2 id j)))))) := by
  have e : M.2.1 id = (3, (M.2.1 id).2.1, (M.2.1 id).2.2) := Prod.ext h1 rfl
  unfold zi_c
  rw [e]
  rfl
theorem zi_c0 {id ci n : Nat} (h1 : M.2.1 id = (0, ci, n)) : zi_c a0 τ M id = .inr (ci, zi_fs a0 ci n (M.2.2.1 id) (M.2.2.2.2 id)) := by
  unfold zi_c
  rw [h1]
  rfl
theorem zi_at {id : Nat} (hW : zi_W a0 τ dC dI M H) (hj : (M.2.1 id).1 ≠ 9) : (zi_ws a0 τ M)[id]? = some (a0 + id, zi_c a0 τ M id) := zi_ws_at (hW.lt hj)
theorem zi_t_iald (hx : p.tables.exec = Jvm.exec) (hb : c.code = cc) (hK : va_K (dC, dI) vwCl (zi_tys τ) s) (hW : zi_W a0 τ dC dI M H) {id : Nat} {j : Int32} (h1 : (M.2.1 id).1 = 1) (h2 : (M.2.1 id).2.1 = 0) (hin : vp_in j (M.2.1 id).2.2) (hdg : decode cc pc = .ok (.iaload, 1))
    (kk : W p l e R s m args below meth c H locs cells slots Q (F0 m (pc + 1) ls (.int (M.2.2.1 id j.toNatClampNeg) :: rest))) : W p l e R s m args below meth c H locs cells slots Q (F0 m pc ls (.int j :: .ref (a0 + id) :: rest)) := by
  have ha := zi_at hW (id := id) (by rw [h1]; decide)
  rw [zi_c1 h1 h2] at ha
  exact va_iald hx hb hK hW.2 id 0 ha rfl hin hdg kk
theorem zi_t_lald (hx : p.tables.exec = Jvm.exec) (hb : c.code = cc) (hK : va_K (dC, dI) vwCl (zi_tys τ) s) (hW : zi_W a0 τ dC dI M H) {id : Nat} {j : Int32} (h1 : (M.2.1 id).1 = 2) (h2 : (M.2.1 id).2.1 = 1) (hin : vp_in j (M.2.1 id).2.2) (hdg : decode cc pc = .ok (.laload, 1))
    (kk : W p l e R s m args below meth c H locs cells slots Q (F0 m (pc + 1) ls (.long (M.2.2.2.1 id j.toNatClampNeg) :: rest))) : W p l e R s m args below meth c H locs cells slots Q (F0 m pc ls (.int j :: .ref (a0 + id) :: rest)) := by
  have ha := zi_at hW (id := id) (by rw [h1]; decide)
  rw [zi_c2 h1 h2] at ha
  exact va_lald hx hb hK hW.2 id 1 ha rfl hin hdg kk
theorem zi_tys_ref {t : Nat} (h : 2 ≤ t ∧ t < 6) : ∃ ty, (zi_tys τ)[t]? = some (τ t, ty) ∧ ty.isReference = true := by
  match t, h with
  | 2, _ => exact ⟨_, rfl, rfl⟩
  | 3, _ => exact ⟨_, rfl, rfl⟩
  | 4, _ => exact ⟨_, rfl, rfl⟩
  | 5, _ => exact ⟨_, rfl, rfl⟩
  | 0, h => exact absurd h.1 (by decide)
  | 1, h => exact absurd h.1 (by decide)
  | t + 6, h => exact absurd h.2 (by omega)
theorem zi_t_aald (hx : p.tables.exec = Jvm.exec) (hb : c.code = cc) (hK : va_K (dC, dI) vwCl (zi_tys τ) s) (hW : zi_W a0 τ dC dI M H) {id : Nat} {j : Int32} (h1 : (M.2.1 id).1 = 3) (h2 : 2 ≤ (M.2.1 id).2.1 ∧ (M.2.1 id).2.1 < 6) (hin : vp_in j (M.2.1 id).2.2) (hdg : decode cc pc = .ok (.aaload, 1))
    (kk : W p l e R s m args below meth c H locs cells slots Q (F0 m (pc + 1) ls (va_rf (zi_ad a0 (M.2.2.2.2 id j.toNatClampNeg)) :: rest))) : W p l e R s m args below meth c H locs cells slots Q (F0 m pc ls (.int j :: .ref (a0 + id) :: rest)) := by
  have ha := zi_at hW (id := id) (by rw [h1]; decide)
  rw [zi_c3 h1] at ha
  obtain ⟨ty, ht, hr⟩ := zi_tys_ref (τ := τ) h2
  have hlt : j.toNatClampNeg < (M.2.1 id).2.2 := Nat.not_le.mp fun q => hin (Or.inr q)
  exact W.aald (v := va_rf (zi_ad a0 (M.2.2.2.2 id j.toNatClampNeg))) (ty := ty) hx hb (hW.2 id _ ha) ((hK.2 _ _ ht).1 _ (fun j => va_rf (zi_ad a0 (M.2.2.2.2 id j)))) hr (fun q => by cases q) (by show ¬ (j < 0 ∨ (arrV _ _ _).slots.size ≤ _); rw [arrV_size]; exact hin) (by show (arrV _ _ _).slots[_]? = _; rw [arrV_read _ _ hlt]) rfl rfl hdg kk
theorem zi_tys_all {t : Nat} (h : t < 6) : ∃ ty, (zi_tys τ)[t]? = some (τ t, ty) := by
  match t, h with
  | 0, _ => exact ⟨_, rfl⟩
  | 1, _ => exact ⟨_, rfl⟩
  | 2, _ => exact ⟨_, rfl⟩
  | 3, _ => exact ⟨_, rfl⟩
  | 4, _ => exact ⟨_, rfl⟩
  | 5, _ => exact ⟨_, rfl⟩
  | t + 6, h => exact absurd h (by omega)
theorem zi_t_alen (hx : p.tables.exec = Jvm.exec) (hb : c.code = cc) (hK : va_K (dC, dI) vwCl (zi_tys τ) s) (hW : zi_W a0 τ dC dI M H) {id : Nat} (h0 : (M.2.1 id).1 ≠ 9) (h1 : 1 ≤ (M.2.1 id).1) (h2 : (M.2.1 id).2.1 < 6) (hdg : decode cc pc = .ok (.arraylength, 1))
    (kk : W p l e R s m args below meth c H locs cells slots Q (F0 m (pc + 1) ls (.int (nI (M.2.1 id).2.2) :: rest))) : W p l e R s m args below meth c H locs cells slots Q (F0 m pc ls (.ref (a0 + id) :: rest)) := by
  have ha := zi_at hW h0
  obtain ⟨ty, ht⟩ := zi_tys_all (τ := τ) h2
  have hc : ∃ x : vp_A, zi_c a0 τ M id = .inl (τ (M.2.1 id).2.1, x) ∧ x.1 = (M.2.1 id).2.2 := by
    unfold zi_c zi_cel
    split
    · rename_i h; omega
    · exact ⟨_, rfl, rfl⟩
    · exact ⟨_, rfl, rfl⟩
    · exact ⟨_, rfl, rfl⟩
  obtain ⟨x, hx1, hx2⟩ := hc
  rw [hx1] at ha
  exact va_alen hx hb hK hW.2 id _ ha ht (v := nI (M.2.1 id).2.2) (by rw [hx2]; rfl) hdg kk
theorem zi_t_iast (hx : p.tables.exec = Jvm.exec) (hb : c.code = cc) (hK : va_K (dC, dI) vwCl (zi_tys τ) s) (hW : zi_W a0 τ dC dI M H) (hS : va_S (zi_A a0) s.heap H locs) {id : Nat} {j x : Int32} (h1 : (M.2.1 id).1 = 1) (h2 : (M.2.1 id).2.1 = 0) (hin : vp_in j (M.2.1 id).2.2) (hdg : decode cc pc = .ok (.iastore, 1))
    (kk : ∀ (H1 : Heap) (locs1 : List Loc), zi_W a0 τ dC dI (M.1, M.2.1, zi_up M.2.2.1 id j.toNatClampNeg x, M.2.2.2.1, M.2.2.2.2) H1 → va_S (zi_A a0) s.heap H1 locs1 → W p l e R s m args below meth c H1 locs1 cells slots Q (F0 m (pc + 1) ls rest)) : W p l e R s m args below meth c H locs cells slots Q (F0 m pc ls (.int x :: .int j :: .ref (a0 + id) :: rest)) := by
  have hne : (M.2.1 id).1 ≠ 9 := by rw [h1]; decide
  have ha := zi_at hW hne
  rw [zi_c1 h1 h2] at ha
  refine W.iast hx hb (hW.2 id _ ha) ((hK.2 0 _ rfl).1 _ (fun j => .int (M.2.2.1 id j))) (fun q => by cases q) (by show ¬ (j < 0 ∨ (arrV _ _ _).slots.size ≤ _); rw [arrV_size]; exact hin) rfl rfl hdg fun H1 e1 z oq => ?_
  refine kk H1 _ (hW.set (hW.lt hne) z ?_ oq rfl rfl (fun i hi => ?_)) (hS.put z oq (Nat.le_add_right _ _))
  · rw [zi_c1 (M := (M.1, M.2.1, zi_up M.2.2.1 id j.toNatClampNeg x, M.2.2.2.1, M.2.2.2.2)) h1 h2]
    show H1[a0 + id]? = some (vp_cell _ _)
    rw [e1, vp_cell_i, vp_cell_i, arrV_store]
    congr 2
    funext q
    show _ = Value.int (zi_up M.2.2.1 id j.toNatClampNeg x id q)
    rw [zi_up_eq]
    by_cases hq : q = j.toNatClampNeg
    · subst hq
      simp [updV, va_up]
    · simp [updV, va_up, hq]
  · simp only [zi_c, zi_up_ne _ _ _ hi]
theorem zi_t_last (hx : p.tables.exec = Jvm.exec) (hb : c.code = cc) (hK : va_K (dC, dI) vwCl (zi_tys τ) s) (hW : zi_W a0 τ dC dI M H) (hS : va_S (zi_A a0) s.heap H locs) {id : Nat} {j : Int32} {x : Int64} (h1 : (M.2.1 id).1 = 2) (h2 : (M.2.1 id).2.1 = 1) (hin : vp_in j (M.2.1 id).2.2) (hdg : decode cc pc = .ok (.lastore, 1))
    (kk : ∀ (H1 : Heap) (locs1 : List Loc), zi_W a0 τ dC dI (M.1, M.2.1, M.2.2.1, zi_up M.2.2.2.1 id j.toNatClampNeg x, M.2.2.2.2) H1 → va_S (zi_A a0) s.heap H1 locs1 → W p l e R s m args below meth c H1 locs1 cells slots Q (F0 m (pc + 1) ls rest)) : W p l e R s m args below meth c H locs cells slots Q (F0 m pc ls (.long x :: .int j :: .ref (a0 + id) :: rest)) := by
  have hne : (M.2.1 id).1 ≠ 9 := by rw [h1]; decide
  have ha := zi_at hW hne
  rw [zi_c2 h1 h2] at ha
  refine W.last hx hb (hW.2 id _ ha) ((hK.2 1 _ rfl).1 _ (fun j => .long (M.2.2.2.1 id j))) (fun q => by cases q) (by show ¬ (j < 0 ∨ (arrV _ _ _).slots.size ≤ _); rw [arrV_size]; exact hin) rfl rfl hdg fun H1 e1 z oq => ?_
  refine kk H1 _ (hW.set (hW.lt hne) z ?_ oq rfl rfl (fun i hi => ?_)) (hS.put z oq (Nat.le_add_right _ _))
  · rw [zi_c2 (M := (M.1, M.2.1, M.2.2.1, zi_up M.2.2.2.1 id j.toNatClampNeg x, M.2.2.2.2)) h1 h2]
    show H1[a0 + id]? = some (vp_cell _ _)
    rw [e1, vp_cell_l, vp_cell_l, arrV_store]
    congr 2
    funext q
    show _ = Value.long (zi_up M.2.2.2.1 id j.toNatClampNeg x id q)
    rw [zi_up_eq]
    by_cases hq : q = j.toNatClampNeg
    · subst hq
      simp [updV, va_up]
    · simp [updV, va_up, hq]
  · simp only [zi_c, zi_up_ne _ _ _ hi]
theorem zi_t_aast (hx : p.tables.exec = Jvm.exec) (hb : c.code = cc) (hK : va_K (dC, dI) vwCl (zi_tys τ) s) (hW : zi_W a0 τ dC dI M H) (hS : va_S (zi_A a0) s.heap H locs) {id x ci : Nat} {j : Int32} {C : String} {T : u_T} {N t0 : Nat} (h1 : (M.2.1 id).1 = 3) (ht : (M.2.1 id).2.1 = t0) (htt : (zi_tys τ)[t0]? = some (τ t0, .object C)) (hv : M.2.1 x = (0, ci, N)) (hc : vwCl[ci]? = some (C, T, N)) (hin : vp_in j (M.2.1 id).2.2) (hdg : decode cc pc = .ok (.aastore, 1))
    (kk : ∀ (H1 : Heap) (locs1 : List Loc), zi_W a0 τ dC dI (M.1, M.2.1, M.2.2.1, M.2.2.2.1, zi_up M.2.2.2.2 id j.toNatClampNeg (some x)) H1 → va_S (zi_A a0) s.heap H1 locs1 → W p l e R s m args below meth c H1 locs1 cells slots Q (F0 m (pc + 1) ls rest)) : W p l e R s m args below meth c H locs cells slots Q (F0 m pc ls (.ref (a0 + x) :: .int j :: .ref (a0 + id) :: rest)) := by
  have hne : (M.2.1 id).1 ≠ 9 := by rw [h1]; decide
  have ha := zi_at hW hne
  rw [zi_c3 h1, ht] at ha
  have hlt : j.toNatClampNeg < (M.2.1 id).2.2 := Nat.not_le.mp fun q => hin (Or.inr q)
  have h0 : ¬ j < 0 := fun q => hin (Or.inl q)
  have hvx := zi_at hW (id := x) (by rw [hv]; show (0 : Nat) ≠ 9; decide)
  rw [zi_c0 hv] at hvx
  obtain ⟨r', hr', cellV, g1, g2, g3, -⟩ := hW.2 x _ hvx
  have hcls := (hK.1 ci _ hc).2
  obtain ⟨kA, comp, k1, k2, k3, -⟩ := (hK.2 t0 _ htt).2
  have hcomp : comp = dC ci := Option.some.inj (k3.symm.trans hcls.1)
  subst hcomp
  obtain ⟨kC, hkC, -⟩ := hcls.2
  refine W.aast hx hb (hW.2 id _ ha) (fun q h => by cases h) (fun h => by cases h) k1 k2 rfl hkC ⟨h0, by show _ < (arrV _ _ _).slots.size; rw [arrV_size]; exact hlt⟩ g1 (fun q h => by rw [g3] at h; cases h) (by rw [g2]; exact hkC) (by rw [g2]; exact va_assign hcls) rfl rfl hdg fun H1 e1 z oq => ?_
  refine kk H1 _ (hW.set (hW.lt hne) z ?_ oq rfl rfl (fun i hi => ?_)) (hS.put z oq (Nat.le_add_right _ _))
  · rw [zi_c3 (M := (M.1, M.2.1, M.2.2.1, M.2.2.2.1, zi_up M.2.2.2.2 id j.toNatClampNeg (some x))) h1]
    show H1[a0 + id]? = some (vp_cell (τ (M.2.1 id).2.1) _)
    rw [ht, e1, vp_cell_q, vp_cell_q, arrV_store]
    congr 2
    funext q
    show _ = va_rf (zi_ad a0 (zi_up M.2.2.2.2 id j.toNatClampNeg (some x) id q))
    rw [zi_up_eq]
    by_cases hq : q = j.toNatClampNeg
    · subst hq
      simp [updV, va_up, va_rf, zi_ad]
    · simp [updV, va_up, hq]
  · simp only [zi_c, zi_up_ne _ _ _ hi]
end ZM
