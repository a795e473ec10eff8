/-! the memory behind the constructors -/
def zR7 : Option (Option Value × zi_M) := zi_ex zi_T zsc0 6000 7 (zi_bk zi_T 7 0) [some (.ref 0)] [] (zi_born (0, 7, 9) zMe) 0 0
def zM7 : zi_M := match zR7 with
  | some q => q.2
  | none => zMe
def zR8 : Option (Option Value × zi_M) := zi_ex zi_T zsc0 1000 8 (zi_bk zi_T 8 0) [some (.ref 111)] [] (zi_born (0, 8, 33) zM7) 0 0
def zM8 : zi_M := match zR8 with
  | some q => q.2
  | none => zMe
def zck7 (r : Option (Option Value × zi_M)) : Bool := match r with
  | some (none, M) => decide (M.1 = 111)
  | _ => false
theorem zR7_ok : zck7 zR7 = true := by decide +kernel
theorem zR7_eq : zR7 = some (none, zM7) ∧ zM7.1 = 111 := by
  have h := zR7_ok
  unfold zM7
  cases e : zR7 with
  | none => rw [e] at h; cases h
  | some q =>
    obtain ⟨r, M⟩ := q
    rw [e] at h
    cases r with
    | none => exact ⟨rfl, of_decide_eq_true h⟩
    | some v => cases h
def zckI (I : Nat → Nat → Int32) : Bool := decide (I 0 8 = 0 ∧ I 0 7 = 0 ∧ I 2 0 = 0 ∧ I 2 1 = 0 ∧ I 2 2 = 0 ∧ I 86 0 = 0 ∧ I 89 2 = 0 ∧ I 89 3 = 0 ∧ I 111 0 = 0 ∧ I 111 1 = 0 ∧ I 111 5 = 0 ∧ I 115 0 = 0 ∧ I 111 30 = 0) && (List.range 4).all (fun k => decide (I (103 + 2 * k) 0 = 0 ∧ I (103 + 2 * k) 2 = 0 ∧ I 112 k = -9 ∧ I 113 k = 0) && (List.range 60).all (fun j => decide (I (104 + 2 * k) j = 0 ∧ I 114 (60 * k + j) = 0))) && (List.range 30).all (fun q => decide (I 90 q = nI (zpu q) ∧ I 91 q = nI (zpm q)))
def zckT (T : Nat → Nat × Nat × Nat) (R : Nat → Nat → Option Nat) : Bool := (List.range 137).all (fun i => decide (T i = zMT i) && ((decide (¬ (zMT i).1 = 0 ∧ ¬ (zMT i).1 = 3) && decide ((zRCL.getD i []).length = 0)) || (decide ((zRCL.getD i []).length ≤ (zMT i).2.2) && (List.range (zMT i).2.2).all (fun k => decide (R i k = zRC i k)))))
def zck8 (r : Option (Option Value × zi_M)) : Bool := match r with
  | some (none, M) => decide (M.1 = 137) && zckI M.2.2.1 && zckT M.2.1 M.2.2.2.2
  | _ => false
theorem zR8_ok : zck8 zR8 = true := by decide +kernel
theorem zR8_eq : zR8 = some (none, zM8) ∧ zM8.1 = 137 ∧ zckI zM8.2.2.1 = true ∧ zckT zM8.2.1 zM8.2.2.2.2 = true := by
  have h := zR8_ok
  unfold zM8
  cases e : zR8 with
  | none => rw [e] at h; cases h
  | some q =>
    obtain ⟨r, M⟩ := q
    rw [e] at h
    cases r with
    | none =>
      simp only [zck8, Bool.and_eq_true] at h
      exact ⟨rfl, of_decide_eq_true h.1.1, h.1.2, h.2⟩
    | some v => cases h
theorem zMe_fine : zi_fine zMe := ⟨fun _ _ => rfl, fun _ _ _ => rfl⟩
theorem zM7_run (sc : Nat × (Nat → Int32)) : zi_ex zi_T sc 6000 7 (zi_bk zi_T 7 0) [some (.ref 0)] [] (zi_born (0, 7, 9) zMe) 0 0 = some (none, zM7) ∧ zi_fine zM7 :=
  zi_ex_ok 6000 7 _ _ _ _ _ _ _ _ (by omega) (zi_okB (by omega) 0) (zMe_fine.born _) zR7_eq.1
theorem zM8_run (sc : Nat × (Nat → Int32)) : zi_ex zi_T sc 1000 8 (zi_bk zi_T 8 0) [some (.ref 111)] [] (zi_born (0, 8, 33) zM7) 0 0 = some (none, zM8) ∧ zi_fine zM8 :=
  zi_ex_ok 1000 8 _ _ _ _ _ _ _ _ (by omega) (zi_okB (by omega) 0) ((zM7_run sc).2.born _) zR8_eq.1
def zI0 : Nat → Nat → Int32 := zM8.2.2.1
def zJ0 : Nat → Nat → Int64 := zM8.2.2.2.1
theorem zMTL_len : zMTL.length = 137 := by decide +kernel
theorem zRCL_len : zRCL.length = 137 := by decide +kernel
theorem zMT_far {i : Nat} (h : 137 ≤ i) : zMT i = (9, 0, 0) := by
  unfold zMT
  rw [List.getD_eq_getElem?_getD, List.getElem?_eq_none (by rw [zMTL_len]; exact h)]
  rfl
theorem zRC_far {i k : Nat} (h : 137 ≤ i) : zRC i k = none := by
  unfold zRC
  rw [List.getD_eq_getElem?_getD (l := zRCL), List.getElem?_eq_none (by rw [zRCL_len]; exact h)]
  rfl
theorem zRC_len {i k : Nat} (h : (zRCL.getD i []).length ≤ k) : zRC i k = none := by
  unfold zRC
  generalize zRCL.getD i [] = l at h
  rw [List.getD_eq_getElem?_getD, List.getElem?_eq_none h]
  rfl
theorem zM8_T : zM8.2.1 = zMT := by
  obtain ⟨-, h1, -, h3⟩ := zR8_eq
  funext i
  by_cases c : i < 137
  · have h := List.all_eq_true.mp h3 i (List.mem_range.mpr c)
    simp only [Bool.and_eq_true, decide_eq_true_eq] at h
    exact h.1
  · rw [zMT_far (by omega)]
    exact (zM8_run zsc0).2.1 i (by omega)
theorem zM8_R : zM8.2.2.2.2 = zRC := by
  obtain ⟨-, h1, -, h3⟩ := zR8_eq
  have hf := (zM8_run zsc0).2.2
  rw [zM8_T] at hf
  funext i k
  by_cases c : i < 137
  · have h := List.all_eq_true.mp h3 i (List.mem_range.mpr c)
    simp only [Bool.and_eq_true, Bool.or_eq_true, decide_eq_true_eq] at h
    rcases h.2 with ⟨a, b⟩ | ⟨a, b⟩
    · rw [hf i k (Or.inr a), zRC_len (by omega)]
    · by_cases d : k < (zMT i).2.2
      · have g := List.all_eq_true.mp b k (List.mem_range.mpr d)
        simp only [decide_eq_true_eq] at g
        exact g
      · rw [hf i k (Or.inl (by omega)), zRC_len (by omega)]
  · rw [zRC_far (by omega)]
    refine hf i k (Or.inr ?_)
    rw [zMT_far (by omega)]
    exact ⟨by decide, by decide⟩
theorem zM8_eq : zM8 = zm zI0 zJ0 := by
  have h1 := zR8_eq.2.1
  have h2 := zM8_T
  have h3 := zM8_R
  unfold zI0 zJ0
  generalize zM8 = M at h1 h2 h3
  obtain ⟨a, b, c, d, e⟩ := M
  dsimp only at h1 h2 h3
  subst h1
  subst h2
  subst h3
  rfl
def zS0 : zS := ((0, 0), (fun _ => -9, fun _ => 0, fun _ _ => 0), (0, 0, fun _ => zNw), (0, fun _ => 0, fun _ => 0))
theorem zS0_ok : zOk zS0 := ⟨fun k _ => ⟨Or.inl rfl, by show 0 ≤ 60; omega⟩, ⟨Or.inl ⟨rfl, rfl⟩, by show 0 ≤ 6; omega, fun r hr => absurd (show r < 0 from hr) (by omega), fun r _ h => absurd rfl h⟩, by show 0 ≤ 8; omega, fun q hq => absurd (show q < 0 from hq) (by omega)⟩
theorem zI0_ck : zckI zI0 = true := zR8_eq.2.2.1
theorem zX_0 : zX zS0 zI0 zJ0 := by
  have h := zI0_ck
  simp only [zckI, Bool.and_eq_true, decide_eq_true_eq] at h
  obtain ⟨⟨⟨a1, a2, a3, a4, a5, a6, a7, a8, -⟩, h2⟩, h3⟩ := h
  refine ⟨⟨a1, a2⟩, fun k hk => ?_, ⟨by rw [a3]; rfl, ⟨⟨a4, a5⟩, ⟨by show 0 ≤ 60; omega, by show 0 ≤ 6; omega⟩, fun r hr => absurd (show r < 0 from hr) (by omega)⟩, fun r hr => absurd (show r < 0 from hr) (by omega)⟩, ⟨a6, fun q hq => absurd (show q < 0 from hq) (by omega)⟩, fun q => absurd rfl q, fun q hq => ?_, Or.inl a7, Or.inl a8⟩
  · have g := List.all_eq_true.mp h2 k (List.mem_range.mpr hk)
    simp only [Bool.and_eq_true, decide_eq_true_eq] at g
    refine ⟨Or.inl ⟨g.1.1, rfl⟩, g.1.2.1, fun j hj => ?_⟩
    have g2 := List.all_eq_true.mp g.2 j (List.mem_range.mpr hj)
    simp only [decide_eq_true_eq] at g2
    exact g2.1
  · have g := List.all_eq_true.mp h3 q (List.mem_range.mpr hq)
    simp only [decide_eq_true_eq] at g
    exact g
theorem zY_0 : zY zS0 zI0 := by
  have h := zI0_ck
  simp only [zckI, Bool.and_eq_true, decide_eq_true_eq] at h
  obtain ⟨⟨⟨-, -, -, -, -, -, -, -, b1, b2, b3, b4, b5⟩, h2⟩, -⟩ := h
  refine ⟨⟨b1, b2⟩, fun k hk => ?_, ⟨b3, fun r hr => absurd (show r < 0 from hr) (by omega), fun r hr => ?_⟩, b5, fun q hq => absurd (show q < 0 from hq) (by omega)⟩
  · have g := List.all_eq_true.mp h2 k (List.mem_range.mpr hk)
    simp only [Bool.and_eq_true, decide_eq_true_eq] at g
    refine ⟨g.1.2.2.1, g.1.2.2.2, fun j hj => ?_⟩
    have g2 := List.all_eq_true.mp g.2 j (List.mem_range.mpr hj)
    simp only [decide_eq_true_eq] at g2
    exact g2.2
  · have hr' : r ≤ 0 := hr
    have : r = 0 := by omega
    subst this
    exact b4
/-! the law's first block -/
theorem zi_G_in {sc : Nat × (Nat → Int32)} {cu su k : Nat} {i : zi_I} {is : List zi_I} {lv lv' : zi_L} {st st' : List Value} {M M' : zi_M} {Q : Option Value → zi_M → Prop} (h : zi_nx sc i lv st M = some (.inl (lv', st', M'))) (hb : cu + (zi_al i st).1 ≤ zi_mc zi_T k ∧ su + (zi_al i st).2 ≤ zi_ms zi_T k) (hg : zi_G sc (cu + (zi_al i st).1) (su + (zi_al i st).2) k is lv' st' M' Q) : zi_G sc cu su k (i :: is) lv st M Q := by
  obtain ⟨n, r, M2, h1, h2⟩ := hg
  refine ⟨n + 1, r, M2, ?_, h2⟩
  unfold zi_ex
  rw [h]
  dsimp only
  rw [if_pos hb]
  exact h1
theorem zi_G_call {sc : Nat × (Nat → Int32)} {cu su k j n0 : Nat} {i : zi_I} {is : List zi_I} {lv : zi_L} {st st' as : List Value} {M M' : zi_M} {r0 : Option Value} {Q : Option Value → zi_M → Prop} (h : zi_nx sc i lv st M = some (.inr (.inr (.inr (j, as, st'))))) (hb : cu + zi_mc zi_T j ≤ zi_mc zi_T k ∧ su + zi_ms zi_T j ≤ zi_ms zi_T k) (hc : zi_ex zi_T sc n0 j (zi_bk zi_T j 0) (zi_la as) [] M 0 0 = some (r0, M')) (hg : zi_G sc (cu + zi_mc zi_T j) (su + zi_ms zi_T j) k is lv (r0.toList ++ st') M' Q) : zi_G sc cu su k (i :: is) lv st M Q := by
  obtain ⟨n, r, M2, h1, h2⟩ := hg
  refine ⟨max n n0 + 1, r, M2, ?_, h2⟩
  unfold zi_ex
  rw [h]
  dsimp only
  rw [if_pos hb, zi_ex_le hc (Nat.le_max_right _ _)]
  exact zi_ex_le h1 (Nat.le_max_left _ _)
theorem zi_G_b {sc : Nat × (Nat → Int32)} {cu su k b : Nat} {i : zi_I} {is : List zi_I} {lv : zi_L} {st st' : List Value} {M : zi_M} {Q : Option Value → zi_M → Prop} (h : zi_nx sc i lv st M = some (.inr (.inl (b, st')))) (hg : zi_B sc cu su k b lv st' M Q) : zi_G sc cu su k (i :: is) lv st M Q := by
  obtain ⟨n, r, M2, h1, h2⟩ := hg
  refine ⟨n + 1, r, M2, ?_, h2⟩
  unfold zi_ex
  rw [h]
  exact h1
theorem zborn_at {M : zi_M} {t : Nat × Nat × Nat} {j : Nat} (h : M.1 = j) : (zi_born t M).2.1 j = t := by
  subst h
  exact va_up_self _ _ _
theorem znx_c {sc : Nat × (Nat → Int32)} {n j id : Nat} {c : Int32} {l : List Nat} {lv : zi_L} {st : List Value} {M : zi_M} (hj : j ≠ 9999) (h : M.2.1 id = (0, l.getD 0 0, l.getD 1 0)) (hs : zi_sh st = true) (hf : zi_fit [.ref id] (l.getD 2 0) = true) : zi_nx sc (.invokespecial n, j, 1, c, l) lv (.ref id :: st) M = some (.inr (.inr (.inr (j, [.ref id], st)))) := by
  simp only [zi_nx, if_neg hj, zi_ivr, zi_pop]
  rw [if_pos ⟨h, hs, hf⟩]
theorem znx_new {sc : Nat × (Nat → Int32)} {n ci nf id : Nat} {c : Int32} {l : List Nat} {lv : zi_L} {st : List Value} {M : zi_M} (h : M.1 = id) : zi_nx sc (.new n, ci, nf, c, l) lv st M = some (.inl (lv, .ref id :: st, zi_born (0, ci, nf) M)) := by
  subst h
  rfl
theorem zi_start {sc : Nat × (Nat → Int32)} {Q : Option Value → zi_M → Prop} (hB : ∀ cu su, cu ≤ 600000 ∧ su ≤ 7302250 → zi_B sc cu su 9 1 [some (.float (UInt32.ofNat 2)), some (.ref 0), some (.ref 111), some (.int 0)] [] (zm zI0 zJ0) Q) : zi_B sc 0 0 9 0 [some (.float (UInt32.ofNat 2))] [] zMe Q := by
  have r7 := (zM7_run sc).1
  have r8 := (zM8_run sc).1
  have e7 := zR7_eq.2
  rw [zM8_eq] at r8
  generalize zM7 = M7 at r7 r8 e7
  generalize zI0 = I at r8 hB
  generalize zJ0 = J at r8 hB
  show zi_G sc 0 0 9 zc_9_0 _ _ _ _
  unfold zc_9_0
  refine zi_G_in (znx_new (id := 0) rfl) (by decide +kernel) ?_
  refine zi_G_in (st' := [.ref 0, .ref 0]) rfl (by decide +kernel) ?_
  refine zi_G_call (znx_c (by decide) (zborn_at rfl) rfl rfl) (by decide +kernel) r7 ?_
  refine zi_G_in (lv' := [some (.float (UInt32.ofNat 2)), some (.ref 0)]) (st' := []) (M' := M7) rfl (by decide +kernel) ?_
  refine zi_G_in (znx_new e7) (by decide +kernel) ?_
  refine zi_G_in (st' := [.ref 111, .ref 111]) rfl (by decide +kernel) ?_
  refine zi_G_call (znx_c (by decide) (zborn_at e7) rfl rfl) (by decide +kernel) r8 ?_
  refine zi_G_in (lv' := [some (.float (UInt32.ofNat 2)), some (.ref 0), some (.ref 111)]) (st' := []) (M' := zm I J) rfl (by decide +kernel) ?_
  refine zi_G_in (st' := [.int 0]) rfl (by decide +kernel) ?_
  refine zi_G_in (lv' := [some (.float (UInt32.ofNat 2)), some (.ref 0), some (.ref 111), some (.int 0)]) (st' := []) (M' := zm I J) rfl (by decide +kernel) ?_
  refine zi_G_b rfl ?_
  exact hB _ _ (by decide +kernel)
