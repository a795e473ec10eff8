/-! THE STATE of both sides: one value S, held by x's cells (zX) and by m's cells (zY) -/
/-! which loop stands in which: of a round's value x, the t-th sign worked -/
def zsg (x : zRt) (t : Nat) : Nat := x.2.2.2 (t % x.2.2.1)
def zsU (x : zRt) : Nat → Nat
  | 0 => 0
  | t + 1 => zsU x t + zusN (zsg x t)
def zsM (x : zRt) : Nat → Nat
  | 0 => 0
  | t + 1 => zsM x t + zmkN (zsg x t)
def zor (f : Nat → Int32) (u : Nat) : Nat → Int32
  | 0 => 0
  | c + 1 => zor f u c ||| f (u + c)
/-- how many loops stand in loop k below -/
def zab (x : zRt) : Nat → Nat → Nat
  | 0, _ => 0
  | t + 1, k => zab x t k + if zsU x t ≤ k ∧ k < zsU x (t + 1) then zmkN (zsg x t) else 0
def zLr (x : zRt) (T : Nat) (below bs fi la ro : Nat → Int32) : Prop := ∀ t, t < T → ∀ q, q < zmkN (zsg x t) →
  bs (zsM x t + q) = nI (zsg x t) ∧ fi (zsM x t + q) = (if zusN (zsg x t) = 0 then -9 else nI (zsU x t)) ∧ la (zsM x t + q) = (if zusN (zsg x t) = 0 then -9 else nI (zsU x t + zusN (zsg x t) - 1)) ∧ ro (zsM x t + q) = zor below (zsU x t) (zusN (zsg x t))
/-- how many signs are worked in ROUND r + 1 -/
def zT (ring : Nat) (rd : Nat → zRt) (r : Nat) : Nat := zlp ring rd r / zuR (rd r) * (rd r).2.2.1
def zLy (I : Nat → Nat → Int32) (ring n : Nat) (rd : Nat → zRt) : Prop := ring ≠ 0 → (∀ k, k < 8 → I 71 k = 1 <<< (nI k &&& 31)) ∧ ∀ r, r < n → zLr (rd r) (zT ring rd r) (I (71 + r)) (I (48 + r)) (I (56 + r)) (I (64 + r)) (I (72 + r)) ∧ ∀ k, k < zlp ring rd r → I (79 + r) k = nI (zab (rd r) (zT ring rd r) k)
/-! plans -/
def zpu (p : Nat) : Nat := if p < 5 then zusN p else zusN ((p - 5) / 5) + zusN ((p - 5) % 5)
def zpm (p : Nat) : Nat := if p < 5 then zmkN p else zmkN ((p - 5) / 5) + zmkN ((p - 5) % 5)
abbrev zBt : Type := List Nat × List Nat × List Nat × List Nat
def zB1 (a : Nat) (s : zBt) (p : Nat) : zBt := if 0 < zco a (zpu p) (zpm p) ∧ s.1.getD (zco a (zpu p) (zpm p)) 99 = 99 ∧ s.2.2.2.length < 60 then (s.1.set (zco a (zpu p) (zpm p)) (s.1.getD a 99 + 1), s.2.1.set (zco a (zpu p) (zpm p)) a, s.2.2.1.set (zco a (zpu p) (zpm p)) p, s.2.2.2 ++ [zco a (zpu p) (zpm p)]) else s
def zB2 (a : Nat) (s : zBt) : zBt := (List.range 30).foldl (zB1 a) s
def zB3 : Nat → Nat → zBt → zBt
  | 0, _, s => s
  | d + 1, i, s => if i < s.2.2.2.length then zB3 d (i + 1) (zB2 (s.2.2.2.getD i 0) s) else s
def zBf (f : Nat) : zBt := zB3 60 0 ((List.replicate 61 99).set f 0, List.replicate 61 0, List.replicate 61 0, [f])
def zW1 (l : List Nat) (a : Nat) (acc : List Nat) (p : Nat) : List Nat := if 0 < zco a (zpu p) (zpm p) then acc.set (zco a (zpu p) (zpm p)) (acc.getD (zco a (zpu p) (zpm p)) 0 + l.getD a 0) else acc
def zW2 (l : List Nat) (acc : List Nat) (a : Nat) : List Nat := ((List.range 25).map (fun p => p + 5)).foldl (zW1 l a) acc
def zWn (f : Nat) : Nat → List Nat
  | 0 => (List.replicate 61 0).set f 1
  | n + 1 => ((List.range 60).map (fun a => a + 1)).foldl (zW2 (zWn f n)) (List.replicate 61 0)
def zrI (d : Nat) : Int32 := if d = 99 then -9 else nI d
def zPt (I : Nat → Nat → Int32) : Prop := ∀ q, q < 30 → I 90 q = nI (zpu q) ∧ I 91 q = nI (zpm q)
def zPn1 (I : Nat → Nat → Int32) : Prop := I 89 2 = 0 ∨ ∃ f, (1 ≤ f ∧ f ≤ 60) ∧ I 89 2 = nI f ∧ ∀ v, v ≤ 60 → I 92 v = zrI ((zBf f).1.getD v 99) ∧ ((zBf f).1.getD v 99 ≠ 99 → (zBf f).1.getD v 99 ≠ 0 → I 93 v = nI ((zBf f).2.1.getD v 0) ∧ I 94 v = nI ((zBf f).2.2.1.getD v 0))
def zPn2 (I : Nat → Nat → Int32) (J : Nat → Nat → Int64) : Prop := I 89 3 = 0 ∨ ∃ f, (1 ≤ f ∧ f ≤ 60) ∧ I 89 3 = nI f ∧ ∀ n, n ≤ 5 → ∀ v, v ≤ 60 → J (97 + n) v = lN ((zWn f n).getD v 0)
/-! S: (fault, trace), sheets (lane or -9, size, cells), piece (ring or 0, rounds, which), readings (how many, of which round, girth) -/
abbrev zS : Type := (Int32 × Int32) × ((Nat → Int32) × (Nat → Nat) × (Nat → Nat → Int32)) × (Nat × Nat × (Nat → zRt)) × (Nat × (Nat → Nat) × (Nat → Int32))
def zRok (x : zRt) : Prop := x.1 < 3 ∧ (1 ≤ x.2.1 ∧ x.2.1 ≤ 9) ∧ (1 ≤ x.2.2.1 ∧ x.2.2.1 ≤ 5) ∧ ∀ i, i < x.2.2.1 → x.2.2.2 i < 5
def zPok (ring n : Nat) (rd : Nat → zRt) : Prop := ((ring = 0 ∧ n = 0) ∨ (3 ≤ ring ∧ ring ≤ 8)) ∧ n ≤ 6 ∧ (∀ r, r < n → zRok (rd r)) ∧ ∀ r, r ≤ n → ring ≠ 0 → zlp ring rd r ≠ 0
def zOk (S : zS) : Prop := (∀ k, k < 4 → (S.2.1.1 k = -9 ∨ S.2.1.1 k = 0 ∨ S.2.1.1 k = 1 ∨ S.2.1.1 k = 2) ∧ S.2.1.2.1 k ≤ 60) ∧ zPok S.2.2.1.1 S.2.2.1.2.1 S.2.2.1.2.2 ∧ S.2.2.2.1 ≤ 8 ∧ ∀ q, q < S.2.2.2.1 → 1 ≤ S.2.2.2.2.1 q ∧ S.2.2.2.2.1 q ≤ 6
/-- x's sheets -/
def zXs (I : Nat → Nat → Int32) (ln : Nat → Int32) (sz : Nat → Nat) (cl : Nat → Nat → Int32) : Prop := ∀ k, k < 4 → ((I (103 + 2 * k) 0 = 0 ∧ ln k = -9) ∨ (I (103 + 2 * k) 0 = 1 ∧ I (103 + 2 * k) 1 = ln k ∧ ln k ≠ -9)) ∧ I (103 + 2 * k) 2 = nI (sz k) ∧ ∀ j, j < 60 → I (104 + 2 * k) j = cl k j
/-- x's piece -/
def zXp (I : Nat → Nat → Int32) (ring n : Nat) (rd : Nat → zRt) : Prop := (I 2 0 = if ring = 0 then 0 else 1) ∧ zPs I 2 ring n rd ∧ zPl I 2 ring n rd
def zXr (I : Nat → Nat → Int32) (nr : Nat) (rr : Nat → Nat) (rv : Nat → Int32) : Prop := I 86 0 = nI nr ∧ ∀ q, q < nr → I 87 q = nI (rr q) ∧ I 88 q = rv q
def zX (S : zS) (I : Nat → Nat → Int32) (J : Nat → Nat → Int64) : Prop := (I 0 8 = S.1.1 ∧ I 0 7 = S.1.2) ∧ zXs I S.2.1.1 S.2.1.2.1 S.2.1.2.2 ∧ zXp I S.2.2.1.1 S.2.2.1.2.1 S.2.2.1.2.2 ∧ zXr I S.2.2.2.1 S.2.2.2.2.1 S.2.2.2.2.2 ∧ zLy I S.2.2.1.1 S.2.2.1.2.1 S.2.2.1.2.2 ∧ zPt I ∧ zPn1 I ∧ zPn2 I J
/-- m's sheets, piece, readings -/
def zYs (I : Nat → Nat → Int32) (ln : Nat → Int32) (sz : Nat → Nat) (cl : Nat → Nat → Int32) : Prop := ∀ k, k < 4 → I 112 k = ln k ∧ I 113 k = nI (sz k) ∧ ∀ j, j < 60 → I 114 (60 * k + j) = cl k j
def zYv (I : Nat → Nat → Int32) (n : Nat) (rd : Nat → zRt) : Prop := ∀ r, r < n → I 116 (r + 1) = nI (rd r).1 ∧ I 117 (r + 1) = nI (rd r).2.1 ∧ I 118 (r + 1) = nI (rd r).2.2.1 ∧ ∀ i, i < (rd r).2.2.1 → I 119 (5 * (r + 1) + i) = nI ((rd r).2.2.2 i)
def zYl (I : Nat → Nat → Int32) (ring n : Nat) (rd : Nat → zRt) : Prop := ∀ r, r ≤ n → I 115 r = nI (zlp ring rd r)
def zYp (I : Nat → Nat → Int32) (ring n : Nat) (rd : Nat → zRt) : Prop := I 111 5 = nI n ∧ zYv I n rd ∧ zYl I ring n rd
def zYr (I : Nat → Nat → Int32) (nr : Nat) (rr : Nat → Nat) (rv : Nat → Int32) : Prop := I 111 30 = nI nr ∧ ∀ q, q < nr → I 135 q = nI (rr q) ∧ I 136 q = rv q
def zY (S : zS) (I : Nat → Nat → Int32) : Prop := (I 111 0 = S.1.1 ∧ I 111 1 = S.1.2) ∧ zYs I S.2.1.1 S.2.1.2.1 S.2.1.2.2 ∧ zYp I S.2.2.1.1 S.2.2.1.2.1 S.2.2.1.2.2 ∧ zYr I S.2.2.2.1 S.2.2.2.2.1 S.2.2.2.2.2
/-! what a change of other rows leaves alone -/
section ZKP
variable {I I' : Nat → Nat → Int32} {J J' : Nat → Nat → Int64}
theorem zXs.kept {ln : Nat → Int32} {sz : Nat → Nat} {cl : Nat → Nat → Int32} (h : zXs I ln sz cl) (hk : ∀ a, 103 ≤ a → a < 111 → I' a = I a) : zXs I' ln sz cl := fun k hk4 => by
  rw [hk (103 + 2 * k) (by omega) (by omega), hk (104 + 2 * k) (by omega) (by omega)]
  exact h k hk4
theorem zXp.kept {ring n : Nat} {rd : Nat → zRt} (h : zXp I ring n rd) (hk : ∀ a, 2 ≤ a → a < 16 → I' a = I a) : zXp I' ring n rd :=
  ⟨by rw [hk 2 (by omega) (by omega)]; exact h.1, h.2.1.kept (fun a h1 h2 => hk a h1 (by omega)), h.2.2.kept h.2.1.2.1.2 (fun a h1 h2 => hk a h1 (by omega))⟩
theorem zXr.kept {nr : Nat} {rr : Nat → Nat} {rv : Nat → Int32} (h : zXr I nr rr rv) (hk : ∀ a, 86 ≤ a → a < 89 → I' a = I a) : zXr I' nr rr rv := by
  unfold zXr
  rw [hk 86 (by omega) (by omega), hk 87 (by omega) (by omega), hk 88 (by omega) (by omega)]
  exact h
theorem zLy.kept {ring n : Nat} {rd : Nat → zRt} (h : zLy I ring n rd) (hn : n ≤ 6) (hk : ∀ a, 45 ≤ a → a < 86 → I' a = I a) : zLy I' ring n rd := fun hr => by
  obtain ⟨h1, h2⟩ := h hr
  refine ⟨fun k hk8 => by rw [hk 71 (by omega) (by omega)]; exact h1 k hk8, fun r hrn => ?_⟩
  rw [hk (71 + r) (by omega) (by omega), hk (48 + r) (by omega) (by omega), hk (56 + r) (by omega) (by omega), hk (64 + r) (by omega) (by omega), hk (72 + r) (by omega) (by omega), hk (79 + r) (by omega) (by omega)]
  exact h2 r hrn
theorem zPt.kept (h : zPt I) (hk : ∀ a, 89 ≤ a → a < 103 → I' a = I a) : zPt I' := by
  unfold zPt
  rw [hk 90 (by omega) (by omega), hk 91 (by omega) (by omega)]
  exact h
theorem zPn1.kept (h : zPn1 I) (hk : ∀ a, 89 ≤ a → a < 103 → I' a = I a) : zPn1 I' := by
  unfold zPn1
  rw [hk 89 (by omega) (by omega), hk 92 (by omega) (by omega), hk 93 (by omega) (by omega), hk 94 (by omega) (by omega)]
  exact h
theorem zPn2.kept (h : zPn2 I J) (hk : ∀ a, 89 ≤ a → a < 103 → I' a = I a) (hj : ∀ a, 89 ≤ a → a < 103 → J' a = J a) : zPn2 I' J' := by
  unfold zPn2
  rw [hk 89 (by omega) (by omega)]
  rcases h with h | ⟨f, h1, h2, h3⟩
  · exact Or.inl h
  · exact Or.inr ⟨f, h1, h2, fun n hn v hv => by rw [hj (97 + n) (by omega) (by omega)]; exact h3 n hn v hv⟩
theorem zX.kept {S : zS} (h : zX S I J) (hn : S.2.2.1.2.1 ≤ 6) (hk : ∀ a, a < 111 → I' a = I a) (hj : ∀ a, a < 111 → J' a = J a) : zX S I' J' := by
  obtain ⟨⟨a1, a2⟩, b, c, d, e, f, g, i⟩ := h
  exact ⟨⟨by rw [hk 0 (by omega)]; exact a1, by rw [hk 0 (by omega)]; exact a2⟩, b.kept (fun a _ _ => hk a (by omega)), c.kept (fun a _ _ => hk a (by omega)), d.kept (fun a _ _ => hk a (by omega)), e.kept hn (fun a _ _ => hk a (by omega)), f.kept (fun a _ _ => hk a (by omega)), g.kept (fun a _ _ => hk a (by omega)), i.kept (fun a _ _ => hk a (by omega)) (fun a _ _ => hj a (by omega))⟩
theorem zY.kept {S : zS} (h : zY S I) (hk : ∀ a, 111 ≤ a → I' a = I a) : zY S I' := by
  unfold zY zYs zYp zYv zYl zYr
  rw [hk 111 (by omega), hk 112 (by omega), hk 113 (by omega), hk 114 (by omega), hk 115 (by omega), hk 116 (by omega), hk 117 (by omega), hk 118 (by omega), hk 119 (by omega), hk 135 (by omega), hk 136 (by omega)]
  exact h
end ZKP
