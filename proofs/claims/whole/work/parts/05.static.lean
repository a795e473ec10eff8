/-! what holds in every method (zi_S), and how it comes to a callee -/
abbrev zi_A (a0 : Nat) : Nat → Prop := fun q => a0 ≤ q
def zi_tys (τ : Nat → ClassId) : List (ClassId × FieldType) := [(τ 0, .int), (τ 1, .long), (τ 2, .object "LoopRounds$Sheet"), (τ 3, .object "LoopRounds$Round"), (τ 4, .array .int), (τ 5, .array .long)]
def zi_S (sc : Nat × (Nat → Int32)) (a0 : Nat) (τ : Nat → ClassId) (σ : Nat → Nat) (dC : Nat → ClassId) (dI : Nat → Nat → Nat) (U : State) : Prop :=
  va_K (dC, dI) vwCl (zi_tys τ) U ∧ va_Z "LoopRounds" "USES" "[I" (.ref (σ 0)) (zi_A a0) U U.heap ∧ va_Z "LoopRounds" "MAKES" "[I" (.ref (σ 1)) (zi_A a0) U U.heap ∧ (∀ q, va_T .int (σ q) (zi_ro sc q).1 (fun j => .int ((zi_ro sc q).2 j)) (zi_A a0) U U.heap) ∧ ∀ w ∈ zi_nw, va_Nw w U
theorem zi_AOA_moved {t : FieldType} {u U : State} (hvm : u.vm.Alike U.vm) (h : va_Nw (.arrayOver (.array t)) u) : va_Nw (.arrayOver (.array t)) U := by
  obtain ⟨comp, c, k, h1, h2, h3, h4, h5⟩ := arrayOverA_spec h
  obtain ⟨k', hk', he⟩ := hvm.2.2 _ _ h3
  have hi : (U.vm.classes.findIdx? fun (x : Class) => match x.kind with | .array component _ => component == comp | _ => false) = some c := by
    rw [hvm.findIdx?_eq _ (fun _ => rfl)]
    exact h2
  have hkind : k'.kind = .array comp (.array t) := by rw [he]; exact h4
  have f1 : U.vm.findClass (FieldType.array t).toString = some comp := by rw [hvm.findClass]; exact h1
  have f2 : U.vm.findClass ("[" ++ (FieldType.array t).toString) = some c := by rw [hvm.findClass]; exact h5
  unfold va_Nw Cond.before Cond.holds
  simp only [Cond.value]
  rw [f1, Option.bind_some]
  refine (congrArg (fun o : Option Nat => (o.bind (fun c => (U.vm.classes[c]?).map fun (k : Class) => match k.kind with | .array _ ty => decide (ty = FieldType.array t) && decide (U.vm.findClass ("[" ++ (FieldType.array t).toString) = some c) | _ => false) == some true)) hi).trans ?_
  simp [hk', hkind, f2]
theorem zi_nw_moved {w : Cond} (hw : w ∈ zi_nw) {s U : State} (hW : s.WarmedH U.vm) (h : va_Nw w s) : va_Nw w U := by
  have hn := (List.mem_filter.mp hw).2
  cases w with
  | fieldLinkNest a b c d e f => exact va_Nw.warmF hW h
  | methodLinkNest a b c d => exact va_Nw.warmM hW h
  | arrayOver ty =>
    cases ty with
    | object C => exact va_AO.moved hW.alike h
    | array t => exact zi_AOA_moved hW.alike h
    | _ => simp [zi_isN] at hn
  | _ => simp [zi_isN] at hn
theorem zi_nw_same {w : Cond} (hw : w ∈ zi_nw) {s U : State} (he : s.vm = U.vm) (h : va_Nw w s) : va_Nw w U := by
  have hn := (List.mem_filter.mp hw).2
  cases w with
  | fieldLinkNest a b c d e f => exact va_Nw.same rfl he h
  | methodLinkNest a b c d => exact va_Nw.same rfl he h
  | arrayOver ty =>
    cases ty with
    | object C => exact va_AO.moved (by rw [he]; exact Vm.Alike.refl _) h
    | array t => exact zi_AOA_moved (by rw [he]; exact Vm.Alike.refl _) h
    | _ => simp [zi_isN] at hn
  | _ => simp [zi_isN] at hn
section ZSM
variable {sc : Nat × (Nat → Int32)} {a0 : Nat} {τ : Nat → ClassId} {σ : Nat → Nat} {dC : Nat → ClassId} {dI : Nat → Nat → Nat}
theorem zi_S.moved {s U : State} {locs : List Loc} (h : zi_S sc a0 τ σ dC dI s) (hW : s.WarmedH U.vm) (hS : va_S (zi_A a0) s.heap U.heap locs) : zi_S sc a0 τ σ dC dI U := by
  obtain ⟨h1, h2, h3, h4, h5⟩ := h
  exact ⟨va_K.moved hW.alike h1, (va_Z.moved hW.alike h2).kept hS.2.1, (va_Z.moved hW.alike h3).kept hS.2.1, fun q => (va_T.moved hW.alike (h4 q)).kept hS.2.1, fun w hw => zi_nw_moved hw hW (h5 w hw)⟩
theorem zi_S.blind {U : State} {g : JFrame} {mk : MethodId} {a : Array Value} (h : zi_S sc a0 τ σ dC dI U) : zi_S sc a0 τ σ dC dI (U.calling g mk a) := by
  obtain ⟨h1, h2, h3, h4, h5⟩ := h
  exact ⟨va_K.moved (u := U) (U := U.calling g mk a) (Vm.Alike.refl U.vm) h1, va_Z.moved (u := U) (U := U.calling g mk a) (Vm.Alike.refl U.vm) h2, va_Z.moved (u := U) (U := U.calling g mk a) (Vm.Alike.refl U.vm) h3, fun q => va_T.moved (u := U) (U := U.calling g mk a) (Vm.Alike.refl U.vm) (h4 q), fun w hw => zi_nw_same hw (s := U) rfl (h5 w hw)⟩
/-- one cell has changed -/
theorem zi_W.set {M M' : zi_M} {H H1 : Heap} (h : zi_W a0 τ dC dI M H) {j : Nat} (hj : j < M.1) (z : H1.size = H.size) (he : va_at (dC, dI) vwCl (a0 + j, zi_c a0 τ M' j) H1) (oq : ∀ q : Nat, q ≠ a0 + j → H1[q]? = H[q]?) (hN : M'.1 = M.1) (hT : M'.2.1 = M.2.1) (ho : ∀ i, i ≠ j → zi_c a0 τ M' i = zi_c a0 τ M i) : zi_W a0 τ dC dI M' H1 := by
  refine ⟨⟨by rw [z, hN]; exact h.1.1, by rw [hN, hT]; exact h.1.2⟩, ?_⟩
  rw [zi_ws_set j hN ho]
  exact h.2.set (zi_Dd a0 τ M) (zi_ws_at hj) he oq
/-- a cell is born -/
theorem zi_W.born {M : zi_M} {H H1 : Heap} {t : Nat × Nat × Nat} (h : zi_W a0 τ dC dI M H) (z : H1.size = H.size + 1) (oq : ∀ q : Nat, q < H.size → H1[q]? = H[q]?) (he : va_at (dC, dI) vwCl (a0 + M.1, zi_cel a0 τ t (fun _ => 0) (fun _ => 0) (fun _ => none)) H1) : zi_W a0 τ dC dI (zi_born t M) H1 := by
  have hc : ∀ i, i < M.1 → zi_c a0 τ (zi_born t M) i = zi_c a0 τ M i := fun i hi => by
    have hne : i ≠ M.1 := Nat.ne_of_lt hi
    simp only [zi_c, zi_born, zi_row_ne _ _ hne, va_up, if_neg hne]
  have hc2 : zi_c a0 τ (zi_born t M) M.1 = zi_cel a0 τ t (fun _ => 0) (fun _ => 0) (fun _ => none) := by
    simp only [zi_c, zi_born, zi_row_eq, va_up, if_pos]
  refine ⟨⟨by rw [z, h.1.1]; simp only [zi_born]; omega, fun j hj => ?_⟩, ?_⟩
  · simp only [zi_born] at hj ⊢
    rw [va_up, if_neg (by omega)]
    exact h.1.2 j (by omega)
  · rw [zi_ws_push rfl hc, hc2]
    refine (h.2.kept (fun k q hq => oq q.1 ?_)).app (fun k q hq => ?_)
    · exact (h.2 k q hq).lt
    · have hz : k < 1 := (List.getElem?_eq_some_iff.mp hq).1
      rw [show k = 0 by omega] at hq
      cases hq
      exact he
theorem zi_S.born {H0 H H1 : Heap} {locs : List Loc} (hS : va_S (zi_A a0) H0 H locs) (z : H1.size = H.size + 1) (oq : ∀ q : Nat, q < H.size → H1[q]? = H[q]?) : va_S (zi_A a0) H0 H1 locs :=
  ⟨by rw [z]; exact Nat.le_succ_of_le hS.1, fun q h1 h2 => (oq q (Nat.lt_of_lt_of_le h1 hS.1)).trans (hS.2.1 q h1 h2), hS.2.2⟩
end ZSM
theorem zi_vin_in {i : Int32} {n : Nat} (h : zi_vin i n = true) : vp_in i n := by
  simp only [zi_vin, Bool.and_eq_true, decide_eq_true_eq] at h
  intro q
  rcases q with q | q
  · exact h.1 q
  · omega
theorem zi_fv_con {a0 : Nat} {σ : Nat → Nat} {tag tg : Nat} {x : Int32} {r : Option Nat} (h : tag = 2 ↔ tg = 2) : zi_con a0 σ (zi_fv tag x r) = zi_fv tg x (zi_ad a0 r) := by
  by_cases ht : tag = 2
  · have h2 := h.mp ht
    subst ht; subst h2
    cases r <;> rfl
  · have h2 : ¬ tg = 2 := fun q => ht (h.mpr q)
    have e1 : zi_fv tag x r = .int x := by unfold zi_fv; split <;> simp_all
    have e2 : zi_fv tg x (zi_ad a0 r) = .int x := by unfold zi_fv; split <;> simp_all
    rw [e1, e2]
    rfl
theorem zi_con_rf {a0 : Nat} {σ : Nat → Nat} (r : Option Nat) : zi_con a0 σ (va_rf r) = va_rf (zi_ad a0 r) := by cases r <;> rfl
theorem zi_fs_at {a0 ci n : Nat} {I : Nat → Int32} {R : Nat → Option Nat} {k : Nat} (h : k < n) : (zi_fs a0 ci n I R)[k]? = some (zi_fv (zi_tg ci k) (I k) (zi_ad a0 (R k))) := by
  unfold zi_fs
  rw [List.getElem?_map, List.getElem?_range h]
  rfl
theorem zi_fs_len (a0 ci n : Nat) (I : Nat → Int32) (R : Nat → Option Nat) : (zi_fs a0 ci n I R).length = n := by simp [zi_fs]
