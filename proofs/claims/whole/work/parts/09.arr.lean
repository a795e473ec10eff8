/-! new arrays, and System.arraycopy, in the world of the interpreter -/
section ZA
variable {p : Program} {l : Launch} {e : Env} {R : Room} {s : State} {m : MethodId} {args : Array Value} {below : List Frame} {meth : Method} {c : Code} {H : Heap} {locs : List Loc} {cells slots : Nat} {Q : State → Prop}
variable {cc : ByteArray} {pc : Nat} {ls : Array Slot} {rest : List Value} {a0 : Nat} {τ : Nat → ClassId} {dC : Nat → ClassId} {dI : Nat → Nat → Nat} {M : zi_M}
theorem zi_t_newI (hx : p.tables.exec = Jvm.exec) (hb : c.code = cc) (harr : (Cond.arrayClass .int).before args s = true) (hK : va_K (dC, dI) vwCl (zi_tys τ) s) (hW : zi_W a0 τ dC dI M H) (hS : va_S (zi_A a0) s.heap H locs) {n : Int32} (hn : ¬ n < 0) (hN : n.toNatClampNeg ≤ 1000) (hcells : cells + 1 ≤ R.cells) (hslots : slots + n.toNatClampNeg ≤ R.slots) (hdg : decode cc pc = .ok (.newarray .int, 2))
    (kk : ∀ (H1 : Heap), zi_W a0 τ dC dI (zi_born (1, 0, n.toNatClampNeg) M) H1 → va_S (zi_A a0) s.heap H1 locs → W p l e R s m args below meth c H1 locs (cells + 1) (slots + n.toNatClampNeg) Q (F0 m (pc + 2) ls (.ref (a0 + M.1) :: rest))) : W p l e R s m args below meth c H locs cells slots Q (F0 m pc ls (.int n :: rest)) := by
  refine va_newaK (atype := .int) hx hb harr rfl hdg rfl hn rfl (by show n.toNatClampNeg * 4 ≤ _; omega) hcells hslots hW.1.1 fun H1 cA e1 z1 o1 hAr hNm => ?_
  have o2 : ∀ q : Nat, q < H.size → H1[q]? = H[q]? := fun q hq => o1 q (by rw [← hW.1.1]; exact hq)
  have z2 : H1.size = H.size + 1 := by rw [z1, hW.1.1]
  have hcA : cA = τ 0 := Option.some.inj (hNm.symm.trans (hK.2 0 _ rfl).2)
  subst hcA
  exact kk H1 (hW.born z2 o2 (by show H1[a0 + M.1]? = some (vp_cell _ _); rw [vp_cell_i]; exact e1)) (zi_S.born hS z2 o2)
theorem zi_t_newL (hx : p.tables.exec = Jvm.exec) (hb : c.code = cc) (harr : (Cond.arrayClass .long).before args s = true) (hK : va_K (dC, dI) vwCl (zi_tys τ) s) (hW : zi_W a0 τ dC dI M H) (hS : va_S (zi_A a0) s.heap H locs) {n : Int32} (hn : ¬ n < 0) (hN : n.toNatClampNeg ≤ 1000) (hcells : cells + 1 ≤ R.cells) (hslots : slots + n.toNatClampNeg ≤ R.slots) (hdg : decode cc pc = .ok (.newarray .long, 2))
    (kk : ∀ (H1 : Heap), zi_W a0 τ dC dI (zi_born (2, 1, n.toNatClampNeg) M) H1 → va_S (zi_A a0) s.heap H1 locs → W p l e R s m args below meth c H1 locs (cells + 1) (slots + n.toNatClampNeg) Q (F0 m (pc + 2) ls (.ref (a0 + M.1) :: rest))) : W p l e R s m args below meth c H locs cells slots Q (F0 m pc ls (.int n :: rest)) := by
  refine va_newaK (atype := .long) hx hb harr rfl hdg rfl hn rfl (by show n.toNatClampNeg * 8 ≤ _; omega) hcells hslots hW.1.1 fun H1 cA e1 z1 o1 hAr hNm => ?_
  have o2 : ∀ q : Nat, q < H.size → H1[q]? = H[q]? := fun q hq => o1 q (by rw [← hW.1.1]; exact hq)
  have z2 : H1.size = H.size + 1 := by rw [z1, hW.1.1]
  have hcA : cA = τ 1 := Option.some.inj (hNm.symm.trans (hK.2 1 _ rfl).2)
  subst hcA
  exact kk H1 (hW.born z2 o2 (by show H1[a0 + M.1]? = some (vp_cell _ _); rw [vp_cell_l]; exact e1)) (zi_S.born hS z2 o2)
theorem zi_t_anew (hx : p.tables.exec = Jvm.exec) (hb : c.code = cc) {own C : String} {idx t0 : Nat} (hown : s.vm.findClass own = some m.cls) (hclink : (Cond.classLink own idx C).before args s = true) (hover : (Cond.arrayOver (.object C)).before args s = true) (hK : va_K (dC, dI) vwCl (zi_tys τ) s) (htt : (zi_tys τ)[t0]? = some (τ t0, .object C)) (hW : zi_W a0 τ dC dI M H) (hS : va_S (zi_A a0) s.heap H locs) {n : Int32} (hn : ¬ n < 0) (hN : n.toNatClampNeg ≤ 1000) (hcells : cells + 1 ≤ R.cells) (hslots : slots + n.toNatClampNeg ≤ R.slots) (hdg : decode cc pc = .ok (.anewarray idx, 3))
    (kk : ∀ (H1 : Heap), zi_W a0 τ dC dI (zi_born (3, t0, n.toNatClampNeg) M) H1 → va_S (zi_A a0) s.heap H1 locs → W p l e R s m args below meth c H1 locs (cells + 1) (slots + n.toNatClampNeg) Q (F0 m (pc + 3) ls (.ref (a0 + M.1) :: rest))) : W p l e R s m args below meth c H locs cells slots Q (F0 m pc ls (.int n :: rest)) := by
  refine W.anew hx hb hown hclink hover rfl hdg rfl hn (by omega) hcells hslots fun cA kA comp f1 f2 f3 f4 => ?_
  generalize hH1 : H.push ({ cls := cA, slots := Array.replicate n.toNatClampNeg .null, vm := .none } : Cell) = H1
  have z2 : H1.size = H.size + 1 := by rw [← hH1, Array.size_push]
  have e1 : H1[H.size]? = some (arrV cA n.toNatClampNeg (fun _ => .null)) := by rw [← hH1, Array.getElem?_push_size, ← arrV_new]
  have o2 : ∀ q : Nat, q < H.size → H1[q]? = H[q]? := fun q hq => by rw [← hH1, Array.getElem?_push, if_neg (Nat.ne_of_lt hq)]
  obtain ⟨kA2, comp2, -, -, -, k4⟩ := (hK.2 t0 _ htt).2
  have hcA : cA = τ t0 := Option.some.inj (f1.symm.trans k4)
  subst hcA
  have h := kk H1 (hW.born z2 o2 (by show H1[a0 + M.1]? = some (vp_cell _ _); rw [vp_cell_q, ← hW.1.1]; exact e1)) (zi_S.born hS z2 o2)
  rw [← hW.1.1] at h
  exact h
/-- new T[n][k] -/
theorem zi_rows_fst (t : Nat × Nat × Nat) : ∀ (k : Nat) (M : zi_M), (zi_rows t k M).1 = M.1 + k
  | 0, M => rfl
  | k + 1, M => by simp only [zi_rows, zi_born, zi_rows_fst t k M]; omega
theorem zi_rows_old (t : Nat × Nat × Nat) : ∀ (k : Nat) (M : zi_M) (i : Nat), i < M.1 → (zi_rows t k M).2.1 i = M.2.1 i ∧ (zi_rows t k M).2.2.1 i = M.2.2.1 i ∧ (zi_rows t k M).2.2.2.1 i = M.2.2.2.1 i ∧ (zi_rows t k M).2.2.2.2 i = M.2.2.2.2 i
  | 0, M, i, _ => ⟨rfl, rfl, rfl, rfl⟩
  | k + 1, M, i, h => by
    obtain ⟨h1, h2, h3, h4⟩ := zi_rows_old t k M i h
    have hne : i ≠ (zi_rows t k M).1 := by rw [zi_rows_fst]; omega
    refine ⟨?_, ?_, ?_, ?_⟩
    · simp only [zi_rows, zi_born, va_up, if_neg hne, h1]
    · simp only [zi_rows, zi_born, zi_row_ne _ _ hne, h2]
    · simp only [zi_rows, zi_born, zi_row_ne _ _ hne, h3]
    · simp only [zi_rows, zi_born, zi_row_ne _ _ hne, h4]
theorem zi_rows_new (t : Nat × Nat × Nat) : ∀ (k : Nat) (M : zi_M) (j : Nat), j < k → (zi_rows t k M).2.1 (M.1 + j) = t ∧ (zi_rows t k M).2.2.1 (M.1 + j) = (fun _ => 0) ∧ (zi_rows t k M).2.2.2.1 (M.1 + j) = (fun _ => 0) ∧ (zi_rows t k M).2.2.2.2 (M.1 + j) = (fun _ => none)
  | 0, M, j, h => absurd h (Nat.not_lt_zero _)
  | k + 1, M, j, h => by
    by_cases hj : j < k
    · obtain ⟨h1, h2, h3, h4⟩ := zi_rows_new t k M j hj
      have hne : M.1 + j ≠ (zi_rows t k M).1 := by rw [zi_rows_fst]; omega
      refine ⟨?_, ?_, ?_, ?_⟩
      · simp only [zi_rows, zi_born, va_up, if_neg hne, h1]
      · simp only [zi_rows, zi_born, zi_row_ne _ _ hne, h2]
      · simp only [zi_rows, zi_born, zi_row_ne _ _ hne, h3]
      · simp only [zi_rows, zi_born, zi_row_ne _ _ hne, h4]
    · have hjk : M.1 + j = (zi_rows t k M).1 := by rw [zi_rows_fst]; omega
      refine ⟨?_, ?_, ?_, ?_⟩
      · simp only [zi_rows, zi_born, va_up, if_pos hjk]
      · simp only [zi_rows, zi_born]; rw [hjk, zi_row_eq]
      · simp only [zi_rows, zi_born]; rw [hjk, zi_row_eq]
      · simp only [zi_rows, zi_born]; rw [hjk, zi_row_eq]
theorem zi_rows_beyond (t : Nat × Nat × Nat) : ∀ (k : Nat) (M : zi_M) (i : Nat), M.1 + k ≤ i → (zi_rows t k M).2.1 i = M.2.1 i
  | 0, M, i, _ => rfl
  | k + 1, M, i, h => by
    have hne : i ≠ (zi_rows t k M).1 := by rw [zi_rows_fst]; omega
    simp only [zi_rows, zi_born, va_up, if_neg hne]
    exact zi_rows_beyond t k M i (by omega)
theorem zi_W.grid {H1 : Heap} {ty kd ty2 n k : Nat} (h : zi_W a0 τ dC dI M H) (z : H1.size = H.size + 1 + n) (oq : ∀ q : Nat, q < H.size → H1[q]? = H[q]?) (he : H1[H.size]? = some (vp_cell (τ ty) (n, .inr (.inr (.inr (.inr (fun i => if i < n then some (H.size + 1 + i) else none)))))))
    (hr : ∀ j : Nat, j < n → H1[H.size + 1 + j]? = some (match kd with | 1 => vp_cell (τ ty2) (k, .inl (fun _ => 0)) | _ => vp_cell (τ ty2) (k, .inr (.inl (fun _ => 0))))) (hkd : kd = 1 ∨ kd = 2) : zi_W a0 τ dC dI (zi_grid ty kd ty2 n k M) H1 := by
  have hN : (zi_grid ty kd ty2 n k M).1 = M.1 + 1 + n := by
    show (zi_rows _ _ _).1 = _
    rw [zi_rows_fst]
    rfl
  have hb1 : (zi_born (3, ty, n) M).1 = M.1 + 1 := rfl
  refine ⟨⟨by rw [z, h.1.1, hN]; omega, fun j hj => ?_⟩, ?_⟩
  · rw [hN] at hj
    show ((zi_rows _ _ _).2.1 j).1 = 9
    rw [zi_rows_beyond _ _ _ _ (by rw [hb1]; exact hj)]
    show (va_up M.2.1 M.1 _ j).1 = 9
    rw [va_up, if_neg (by omega)]
    exact h.1.2 j (by omega)
  · intro j q hq
    obtain ⟨hj, rfl⟩ := zi_ws_some hq
    rw [hN] at hj
    by_cases c1 : j < M.1
    · have hc : zi_c a0 τ (zi_grid ty kd ty2 n k M) j = zi_c a0 τ M j := by
        obtain ⟨g1, g2, g3, g4⟩ := zi_rows_old (kd, ty2, k) n (zi_born (3, ty, n) M) j (by rw [hb1]; omega)
        have hne : j ≠ M.1 := Nat.ne_of_lt c1
        unfold zi_c
        simp only [zi_grid, g1, g2, g3, zi_row_ne _ _ hne, g4]
        simp only [zi_born, zi_row_ne _ _ hne, va_up, if_neg hne]
      rw [hc]
      exact (h.2 j _ (zi_ws_at c1)).kept (oq _ (by rw [h.1.1]; show a0 + j < _; omega))
    · by_cases c2 : j = M.1
      · subst c2
        have hc : zi_c a0 τ (zi_grid ty kd ty2 n k M) M.1 = .inl (τ ty, n, .inr (.inr (.inr (.inr (fun i => if i < n then some (H.size + 1 + i) else none))))) := by
          obtain ⟨g1, g2, g3, g4⟩ := zi_rows_old (kd, ty2, k) n (zi_born (3, ty, n) M) M.1 (by rw [hb1]; omega)
          unfold zi_c
          simp only [zi_grid, g1, zi_row_eq]
          simp only [zi_born, va_up, if_pos]
          show Sum.inl (τ ty, n, _) = _
          congr 2
          congr 1
          congr 1
          congr 1
          congr 1
          congr 1
          funext i
          by_cases hi : i < n
          · simp only [if_pos hi, zi_ad, Option.map_some, h.1.1]
            congr 1
            omega
          · simp only [if_neg hi, zi_ad, Option.map_none]
        rw [hc]
        show H1[a0 + M.1]? = _
        rw [← h.1.1]
        exact he
      · obtain ⟨i, rfl⟩ : ∃ i, j = M.1 + 1 + i := ⟨j - M.1 - 1, by omega⟩
        have hi : i < n := by omega
        obtain ⟨g1, g2, g3, g4⟩ := zi_rows_new (kd, ty2, k) n (zi_born (3, ty, n) M) i hi
        rw [hb1] at g1 g2 g3 g4
        have hne : M.1 + 1 + i ≠ M.1 := by omega
        have hrow := hr i hi
        have hc : zi_c a0 τ (zi_grid ty kd ty2 n k M) (M.1 + 1 + i) = zi_cel a0 τ (kd, ty2, k) (fun _ => 0) (fun _ => 0) (fun _ => none) := by
          unfold zi_c
          simp only [zi_grid, g1, g2, g3, zi_row_ne _ _ hne, g4]
        rw [hc]
        rcases hkd with rfl | rfl
        · show H1[a0 + (M.1 + 1 + i)]? = some (vp_cell _ _)
          rw [show a0 + (M.1 + 1 + i) = H.size + 1 + i by rw [h.1.1]; omega]
          exact hrow
        · show H1[a0 + (M.1 + 1 + i)]? = some (vp_cell _ _)
          rw [show a0 + (M.1 + 1 + i) = H.size + 1 + i by rw [h.1.1]; omega]
          exact hrow
theorem zi_t_mna (hx : p.tables.exec = Jvm.exec) (hb : c.code = cc) {own : String} {idx ty kd ty2 : Nat} {fty : FieldType} (hown : s.vm.findClass own = some m.cls) (hclink : (Cond.classLink own idx ("[" ++ (FieldType.array fty).toString)).before args s = true) (hover : (Cond.arrayOver (.array fty)).before args s = true) (harr : (Cond.arrayClass fty).before args s = true)
    (hty : (ty = 4 ∧ kd = 1 ∧ ty2 = 0 ∧ fty = .int) ∨ (ty = 5 ∧ kd = 2 ∧ ty2 = 1 ∧ fty = .long)) (hK : va_K (dC, dI) vwCl (zi_tys τ) s) (hW : zi_W a0 τ dC dI M H) (hS : va_S (zi_A a0) s.heap H locs) {n k : Int32} (hn : ¬ n < 0) (hN : n.toNatClampNeg ≤ 1000) (hk : ¬ k < 0) (hk2 : k.toNatClampNeg ≤ 1000)
    (hcells : cells + (1 + n.toNatClampNeg) ≤ R.cells) (hslots : slots + (n.toNatClampNeg + n.toNatClampNeg * k.toNatClampNeg) ≤ R.slots) (hdg : decode cc pc = .ok (.multianewarray idx 2, 4))
    (kk : ∀ (H1 : Heap), zi_W a0 τ dC dI (zi_grid ty kd ty2 n.toNatClampNeg k.toNatClampNeg M) H1 → va_S (zi_A a0) s.heap H1 locs → W p l e R s m args below meth c H1 locs (cells + (1 + n.toNatClampNeg)) (slots + (n.toNatClampNeg + n.toNatClampNeg * k.toNatClampNeg)) Q (F0 m (pc + 4) ls (.ref (a0 + M.1) :: rest))) : W p l e R s m args below meth c H locs cells slots Q (F0 m pc ls (.int k :: .int n :: rest)) := by
  intro T hT Xs
  have hcb : k.toNatClampNeg * componentBytes fty ≤ 536870912 := by
    rcases hty with ⟨-, -, -, rfl⟩ | ⟨-, -, -, rfl⟩
    · show k.toNatClampNeg * 4 ≤ _; omega
    · show k.toNatClampNeg * 8 ≤ _; omega
  have hdf : fits fty (defaultValue fty) = true := by rcases hty with ⟨-, -, -, rfl⟩ | ⟨-, -, -, rfl⟩ <;> rfl
  have hdd : (defaultValue fty).isDefault = true := by rcases hty with ⟨-, -, -, rfl⟩ | ⟨-, -, -, rfl⟩ <;> rfl
  obtain ⟨vm₁, cA, comp, -, fA, fC, hO, -, X', step⟩ := Xs.multianewarray2F hx hown hclink hover harr (g := F0 m pc ls (.int k :: .int n :: rest)) rfl (by rw [hb]; exact hdg) rfl hn hk (by omega) hcb (by omega) hdf hdd hcells hslots
  generalize hF : Jvm.Free.Multi.fill (T.setVm vm₁) cA comp n.toNatClampNeg k.toNatClampNeg (defaultValue fty) n.toNatClampNeg = F at X' step
  have hTh : (T.setVm vm₁).heap = H := hT
  obtain ⟨f1, f2, -, -⟩ := Jvm.Free.Multi.fill_facts (T.setVm vm₁) cA comp n.toNatClampNeg k.toNatClampNeg (defaultValue fty) n.toNatClampNeg
  rw [hF, hTh] at f1 f2
  have hold : ∀ x : Nat, x < H.size → F.heap[x]? = H[x]? := fun x hx => by
    have := Jvm.Free.Multi.fill_old (T.setVm vm₁) cA comp n.toNatClampNeg k.toNatClampNeg (defaultValue fty) (a := x) (by rw [hTh]; exact hx) n.toNatClampNeg
    rw [hF, hTh] at this
    exact this
  have hrow : ∀ j : Nat, j < n.toNatClampNeg → F.heap[H.size + 1 + j]? = some (Jvm.Free.Multi.innerC comp k.toNatClampNeg (defaultValue fty)) := fun j hj => by
    have := Jvm.Free.Multi.fill_inner (T.setVm vm₁) cA comp n.toNatClampNeg k.toNatClampNeg (defaultValue fty) n.toNatClampNeg j hj
    rw [hF, hTh] at this
    exact this
  have hout : Jvm.Free.Multi.outerC cA n.toNatClampNeg H.size n.toNatClampNeg = vp_cell cA (n.toNatClampNeg, .inr (.inr (.inr (.inr (fun i => if i < n.toNatClampNeg then some (H.size + 1 + i) else none))))) := by
    rw [vp_cell_q]
    exact vr_outer cA n.toNatClampNeg H.size n.toNatClampNeg
  rw [hout] at f2
  have hA : cA = τ ty := by
    rcases hty with ⟨rfl, rfl, rfl, rfl⟩ | ⟨rfl, rfl, rfl, rfl⟩
    · exact Option.some.inj (fA.symm.trans (hK.2 4 _ rfl).2)
    · exact Option.some.inj (fA.symm.trans (hK.2 5 _ rfl).2)
  have hC : comp = τ ty2 := by
    rcases hty with ⟨rfl, rfl, rfl, rfl⟩ | ⟨rfl, rfl, rfl, rfl⟩
    · exact Option.some.inj (fC.symm.trans (hK.2 0 _ rfl).2)
    · exact Option.some.inj (fC.symm.trans (hK.2 1 _ rfl).2)
  subst hA
  subst hC
  have hWg : zi_W a0 τ dC dI (zi_grid ty kd ty2 n.toNatClampNeg k.toNatClampNeg M) F.heap := by
    refine hW.grid f1 hold f2 (fun j hj => ?_) ?_
    · rw [hrow j hj]
      rcases hty with ⟨rfl, rfl, rfl, rfl⟩ | ⟨rfl, rfl, rfl, rfl⟩
      · show some ({ cls := _, slots := Array.replicate _ (.int 0), vm := .none } : Cell) = some (vp_cell _ _)
        rw [vp_cell_i, arrV_new]
      · show some ({ cls := _, slots := Array.replicate _ (.long 0), vm := .none } : Cell) = some (vp_cell _ _)
        rw [vp_cell_l, arrV_new]
    · rcases hty with ⟨-, h, -, -⟩ | ⟨-, h, -, -⟩
      · exact Or.inl h
      · exact Or.inr h
  have hS1 : va_S (zi_A a0) s.heap F.heap locs := ⟨by rw [f1]; have := hS.1; omega, fun x h1 h2 => (hold x (Nat.lt_of_lt_of_le h1 hS.1)).trans (hS.2.1 x h1 h2), hS.2.2⟩
  have e1 : cells + 1 + n.toNatClampNeg = cells + (1 + n.toNatClampNeg) := by omega
  have e2 : slots + n.toNatClampNeg + n.toNatClampNeg * k.toNatClampNeg = slots + (n.toNatClampNeg + n.toNatClampNeg * k.toNatClampNeg) := by omega
  rw [e1, e2] at X'
  obtain ⟨t, a1, b1⟩ := kk F.heap hWg hS1 F rfl X'
  refine ⟨t, step t ?_, b1⟩
  have e : T.heap.size = a0 + M.1 := by rw [hT]; exact hW.1.1
  rw [e]
  exact a1
end ZA
