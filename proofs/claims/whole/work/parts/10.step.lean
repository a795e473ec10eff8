/-! one instruction of the interpreter is one of the machine -/
section ZT
variable {p : Program} {l : Launch} {e : Env} {R : Room} {s : State} {m : MethodId} {args : Array Value} {below : List Frame} {meth : Method} {c : Code} {H : Heap} {locs : List Loc} {cells slots : Nat} {Q : State → Prop}
variable {cc : ByteArray} {pc : Nat} {ls : Array Slot} {rest : List Value} {a0 : Nat} {τ : Nat → ClassId} {dC : Nat → ClassId} {dI : Nat → Nat → Nat} {M : zi_M} {σ : Nat → Nat}
theorem zi_t_cp (hexec : p.tables.exec = Jvm.exec) (hb : c.code = cc) (hml : c.maxLocals = ls.size) {own : String} {index : Nat} (hown : s.vm.findClass own = some m.cls) (hlink : (Cond.methodLink own index arraycopyName).before args s = true) (hnat : (Cond.native arraycopyName).before args s = true) (hstat : (Cond.static arraycopyName).before args s = true) (hini : (Cond.initialized "java/lang/System").before args s = true)
    (hK : va_K (dC, dI) vwCl (zi_tys τ) s) (hW : zi_W a0 τ dC dI M H) (hS : va_S (zi_A a0) s.heap H locs) {x y : Nat} (hx1 : (M.2.1 x).1 = 1) (hx2 : (M.2.1 x).2.1 = 0) (hy1 : (M.2.1 y).1 = 1) (hy2 : (M.2.1 y).2.1 = 0)
    {sp dp n : Int32} (h1 : ¬ sp < 0) (h2 : ¬ dp < 0) (h3 : ¬ n < 0) (h4 : sp.toNatClampNeg + n.toNatClampNeg ≤ (M.2.1 x).2.2) (h5 : dp.toNatClampNeg + n.toNatClampNeg ≤ (M.2.1 y).2.2)
    (hframes : 1 ≤ R.frames) (hlocals : (rest.map fun v => v.category).sum + (nativeFrameWords "java/lang/System" "arraycopy" 5 + 11) ≤ R.locals) (hdg : decode cc pc = .ok (.invokestatic index, 3))
    (kk : ∀ (H1 : Heap) (locs1 : List Loc), zi_W a0 τ dC dI (M.1, M.2.1, zi_row M.2.2.1 y (va_cpy (M.2.2.1 x) (M.2.2.1 y) sp.toNatClampNeg dp.toNatClampNeg n.toNatClampNeg), M.2.2.2.1, M.2.2.2.2) H1 → va_S (zi_A a0) s.heap H1 locs1 → W p l e R s m args below meth c H1 locs1 cells slots Q (F0 m (pc + 3) ls rest)) : W p l e R s m args below meth c H locs cells slots Q (F0 m pc ls (.int n :: .int dp :: .ref (a0 + y) :: .int sp :: .ref (a0 + x) :: rest)) := by
  have nn : ∀ z : Int32, ¬ z < 0 → z.toInt = (z.toNatClampNeg : Int) := by
    intro z hz
    have hz0 : (0 : Int) ≤ z.toInt := by
      have := Int32.not_lt.mp hz
      simpa using Int32.le_iff_toInt_le.mp this
    show z.toInt = ((z.toInt.toNat : Nat) : Int)
    omega
  intro T hT X
  have hney : (M.2.1 y).1 ≠ 9 := by rw [hy1]; decide
  have hax := zi_at hW (id := x) (by rw [hx1]; decide)
  have hay := zi_at hW hney
  rw [zi_c1 hx1 hx2] at hax
  rw [zi_c1 hy1 hy2] at hay
  have hc0 : H[a0 + x]? = some (vp_cell (τ 0) ((M.2.1 x).2.2, .inl (M.2.2.1 x))) := hW.2 x _ hax
  have hc1 : H[a0 + y]? = some (vp_cell (τ 0) ((M.2.1 y).2.2, .inl (M.2.2.1 y))) := hW.2 y _ hay
  obtain ⟨-, k0, hk0, cm0, hkk0⟩ := (hK.2 0 _ rfl).1 (M.2.1 x).2.2 (fun j => .int (M.2.2.1 x j))
  obtain ⟨-, k1, hk1, cm1, hkk1⟩ := (hK.2 0 _ rfl).1 (M.2.1 y).2.2 (fun j => .int (M.2.2.1 y j))
  obtain ⟨vm', X', step⟩ := X.arraycopy hexec hown hlink hnat hstat hini (src := a0 + x) (dst := a0 + y) (cs := vp_cell (τ 0) ((M.2.1 x).2.2, .inl (M.2.2.1 x))) (cd := vp_cell (τ 0) ((M.2.1 y).2.2, .inl (M.2.2.1 y))) (srcPos := sp) (destPos := dp) (n := n) (by rw [hT]; exact hc0) (by rw [hT]; exact hc1)
    (fun _ h => by cases h) (fun _ h => by cases h) (fun h => by cases h) (fun h => by cases h) hk0 hk1 hkk0 hkk1 (by simp [refKind]) h1 h2 h3
    (by rw [nn sp h1, nn n h3]; show ¬ _ > ((arrV (τ 0) (M.2.1 x).2.2 (fun j => .int (M.2.2.1 x j))).slots.size : Int); rw [arrV_size]; omega)
    (by rw [nn dp h2, nn n h3]; show ¬ _ > ((arrV (τ 0) (M.2.1 y).2.2 (fun j => .int (M.2.2.1 y j))).slots.size : Int); rw [arrV_size]; omega)
    (fun vm₁ _ i hi => by
      have e : (vp_cell (τ 0) ((M.2.1 x).2.2, .inl (M.2.2.1 x))).slots.getD (sp.toNatClampNeg + i) .null = .int (M.2.2.1 x (sp.toNatClampNeg + i)) := by
        show (arrV (τ 0) (M.2.1 x).2.2 (fun j => .int (M.2.2.1 x j))).slots.getD _ _ = _
        rw [Array.getD_eq_getD_getElem?, arrV_read _ _ (by omega)]
        rfl
      refine ⟨?_, ?_⟩
      · rw [e]
        rfl
      · rw [e]
        exact trivial)
    (g := F0 m pc ls (.int n :: .int dp :: .ref (a0 + y) :: .int sp :: .ref (a0 + x) :: rest)) rfl (by rw [hml]) (rest := rest) rfl (by rw [hb]; exact hdg) hframes (by show 2 * 0 + _ + _ ≤ _; omega)
  have e1 : copied (vp_cell (τ 0) ((M.2.1 x).2.2, .inl (M.2.2.1 x))) (vp_cell (τ 0) ((M.2.1 y).2.2, .inl (M.2.2.1 y))) sp dp n = vp_cell (τ 0) ((M.2.1 y).2.2, .inl (va_cpy (M.2.2.1 x) (M.2.2.1 y) sp.toNatClampNeg dp.toNatClampNeg n.toNatClampNeg)) := va_copied (fun z => .int z) (τ 0) (τ 0) (M.2.2.1 x) (M.2.2.1 y) h4
  rw [e1] at X' step
  have hl : a0 + y < H.size := (Array.getElem?_eq_some_iff.mp hc1).1
  generalize hcN : vp_cell (τ 0) ((M.2.1 y).2.2, .inl (va_cpy (M.2.2.1 x) (M.2.2.1 y) sp.toNatClampNeg dp.toNatClampNeg n.toNatClampNeg)) = cN at X' step
  have hheap : ((T.setVm vm').setCell (a0 + y) cN).heap = H.setIfInBounds (a0 + y) cN := by rw [← hT]; rfl
  have oq : ∀ q : Nat, q ≠ a0 + y → (H.setIfInBounds (a0 + y) cN)[q]? = H[q]? := fun q hq => by simp [Array.getElem?_setIfInBounds, Ne.symm hq]
  have hself : (H.setIfInBounds (a0 + y) cN)[a0 + y]? = some cN := by simp [Array.getElem?_setIfInBounds, hl]
  obtain ⟨t, a1, b1⟩ := kk _ _ (hW.set (hW.lt hney) (by simp) (by
      rw [zi_c1 (M := (M.1, M.2.1, zi_row M.2.2.1 y (va_cpy (M.2.2.1 x) (M.2.2.1 y) sp.toNatClampNeg dp.toNatClampNeg n.toNatClampNeg), M.2.2.2.1, M.2.2.2.2)) hy1 hy2]
      show (H.setIfInBounds (a0 + y) cN)[a0 + y]? = some (vp_cell _ (_, .inl (zi_row M.2.2.1 y _ y)))
      rw [zi_row_eq, hself, ← hcN]) oq rfl rfl (fun i hi => by simp only [zi_c, zi_row_ne _ _ hi])) ⟨by simp; exact hS.1, fun q g1 g2 => by
      rw [oq q (fun e => g2 (by rw [e]; exact Nat.le_add_right _ _))]
      exact hS.2.1 q g1 g2, fun q hq => by
      rcases List.mem_append.mp hq with h | h
      · exact hS.2.2 q h
      · obtain ⟨z, -, hz⟩ := List.mem_map.mp h
        rw [← hz]
        exact Nat.le_add_right _ _⟩ _ hheap X'
  exact ⟨t, step t a1, b1⟩
/-- loads and stores of references, by the interpreter's value -/
theorem zi_t_aload (hx : p.tables.exec = Jvm.exec) (hb : c.code = cc) {i : Nat} {v : Value} (hv : (∃ x, v = .ref x) ∨ (∃ x, v = .float x) ∨ v = .null) (hdg : decode cc pc = .ok (.aload i, 2)) (hl : ls[i]? = some (.val (zi_con a0 σ v)))
    (k : W p l e R s m args below meth c H locs cells slots Q (F0 m (pc + 2) ls (zi_con a0 σ v :: rest))) : W p l e R s m args below meth c H locs cells slots Q (F0 m pc ls rest) := by
  rcases hv with ⟨x, rfl⟩ | ⟨x, rfl⟩ | rfl
  · exact lv_aload hx hb hdg hl k
  · exact lv_aload hx hb hdg hl k
  · exact lv_aloadN hx hb hdg hl k
theorem zi_t_aload_n (hx : p.tables.exec = Jvm.exec) (hb : c.code = cc) {i : Fin 4} {v : Value} (hv : (∃ x, v = .ref x) ∨ (∃ x, v = .float x) ∨ v = .null) (hdg : decode cc pc = .ok (.aload_n i, 1)) (hl : ls[i.val]? = some (.val (zi_con a0 σ v)))
    (k : W p l e R s m args below meth c H locs cells slots Q (F0 m (pc + 1) ls (zi_con a0 σ v :: rest))) : W p l e R s m args below meth c H locs cells slots Q (F0 m pc ls rest) := by
  rcases hv with ⟨x, rfl⟩ | ⟨x, rfl⟩ | rfl
  · exact lv_aload_n hx hb hdg rfl hl k
  · exact lv_aload_n hx hb hdg rfl hl k
  · exact lv_aload_nN hx hb hdg rfl hl k
theorem zi_t_astore (hx : p.tables.exec = Jvm.exec) (hb : c.code = cc) {i nL : Nat} {v : Value} {lv : zi_L} (hv : (∃ x, v = .ref x) ∨ (∃ x, v = .float x) ∨ v = .null) (hdg : decode cc pc = .ok (.astore i, 2)) (h : lv_has ls nL (zi_lp a0 σ 0 lv)) (hn : i < nL)
    (kk : ∀ ls' : Array Slot, lv_has ls' nL (zi_lp a0 σ 0 (zi_st1 lv i v)) → W p l e R s m args below meth c H locs cells slots Q (F0 m (pc + 2) ls' rest)) : W p l e R s m args below meth c H locs cells slots Q (F0 m pc ls (zi_con a0 σ v :: rest)) := by
  rcases hv with ⟨x, rfl⟩ | ⟨x, rfl⟩ | rfl
  · exact lv_astore hx hb hdg h hn rfl (fun ls' h' => kk ls' (zi_has_st1 h'))
  · exact lv_astore hx hb hdg h hn rfl (fun ls' h' => kk ls' (zi_has_st1 h'))
  · exact lv_astoreN hx hb hdg h hn rfl (fun ls' h' => kk ls' (zi_has_st1 h'))
theorem zi_t_astore_n (hx : p.tables.exec = Jvm.exec) (hb : c.code = cc) {i : Fin 4} {nL : Nat} {v : Value} {lv : zi_L} (hv : (∃ x, v = .ref x) ∨ (∃ x, v = .float x) ∨ v = .null) (hdg : decode cc pc = .ok (.astore_n i, 1)) (h : lv_has ls nL (zi_lp a0 σ 0 lv)) (hn : i.val < nL)
    (kk : ∀ ls' : Array Slot, lv_has ls' nL (zi_lp a0 σ 0 (zi_st1 lv i.val v)) → W p l e R s m args below meth c H locs cells slots Q (F0 m (pc + 1) ls' rest)) : W p l e R s m args below meth c H locs cells slots Q (F0 m pc ls (zi_con a0 σ v :: rest)) := by
  rcases hv with ⟨x, rfl⟩ | ⟨x, rfl⟩ | rfl
  · exact lv_astore_n hx hb hdg rfl h hn rfl (fun ls' h' => kk ls' (zi_has_st1 h'))
  · exact lv_astore_n hx hb hdg rfl h hn rfl (fun ls' h' => kk ls' (zi_has_st1 h'))
  · exact lv_astore_nN hx hb hdg rfl h hn rfl (fun ls' h' => kk ls' (zi_has_st1 h'))
theorem zi_t_iinc (hx : p.tables.exec = Jvm.exec) (hb : c.code = cc) {i nL : Nat} {n : Int} {x v : Int32} {lv : zi_L} (hdg : decode cc pc = .ok (.iinc i n, 3)) (h : lv_has ls nL (zi_lp a0 σ 0 lv)) (hg : zi_get lv i = some (.int x)) (hv : Int32.ofInt n = v) (hn : i < nL)
    (kk : ∀ ls' : Array Slot, lv_has ls' nL (zi_lp a0 σ 0 (zi_st1 lv i (.int (x + v)))) → W p l e R s m args below meth c H locs cells slots Q (F0 m (pc + 3) ls' rest)) : W p l e R s m args below meth c H locs cells slots Q (F0 m pc ls rest) := by
  obtain ⟨k, hk⟩ := List.getElem?_of_mem ((zi_lp_mem (a0 := a0) (σ := σ) lv 0 (i, .int x)).mpr ⟨i, .int x, hg, by simp [zi_con]⟩)
  exact lv_iinc (v := x + v) hx hb hdg h hk (by rw [hv]) hn rfl (fun ls' h' => kk ls' (zi_has_st1 h'))
end ZT
/-- what a method's walk knows -/
def zi_cx (T : Nat → zi_D) (sc : Nat × (Nat → Int32)) (a0 : Nat) (τ : Nat → ClassId) (σ : Nat → Nat) (dC : Nat → ClassId) (dI : Nat → Nat → Nat) (k : Nat) (p : Program) (s : State) (m : MethodId) (args : Array Value) (meth : Method) (c : Code) : Prop :=
  p.tables.exec = Jvm.exec ∧ c.code = zi_cd T k ∧ c.maxLocals = zi_mx T k ∧ s.vm.findClass (zi_yy T k).cls = some m.cls ∧ (∀ w ∈ zi_gw, w.before args s = true) ∧ meth.name = (zi_yy T k).name ∧ zi_S sc a0 τ σ dC dI s ∧ a0 ≤ s.heap.size
