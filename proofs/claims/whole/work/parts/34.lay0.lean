/-! which loop stands in which: the reckoning alone -/
theorem zsU_le (x : zRt) : ∀ t d, zsU x t ≤ zsU x (t + d)
  | t, 0 => Nat.le_refl _
  | t, d + 1 => Nat.le_trans (zsU_le x t d) (by show zsU x (t + d) ≤ zsU x (t + d) + _; omega)
theorem zsM_le (x : zRt) : ∀ t d, zsM x t ≤ zsM x (t + d)
  | t, 0 => Nat.le_refl _
  | t, d + 1 => Nat.le_trans (zsM_le x t d) (by show zsM x (t + d) ≤ zsM x (t + d) + _; omega)
theorem zsU_mn (x : zRt) {t t' : Nat} (h : t ≤ t') : zsU x t ≤ zsU x t' := by
  obtain ⟨d, rfl⟩ : ∃ d, t' = t + d := ⟨t' - t, by omega⟩
  exact zsU_le x t d
theorem zsM_mn (x : zRt) {t t' : Nat} (h : t ≤ t') : zsM x t ≤ zsM x t' := by
  obtain ⟨d, rfl⟩ : ∃ d, t' = t + d := ⟨t' - t, by omega⟩
  exact zsM_le x t d
theorem zsg_at (x : zRt) (a : Nat) {i : Nat} (h : i < x.2.2.1) : zsg x (a * x.2.2.1 + i) = x.2.2.2 i := by
  unfold zsg
  rw [Nat.mul_comm, Nat.mul_add_mod, Nat.mod_eq_of_lt h]
theorem zsU_at (x : zRt) : ∀ a i, i ≤ x.2.2.1 → zsU x (a * x.2.2.1 + i) = a * zuR x + zuS x.2.2.2 i := by
  intro a
  induction a with
  | zero =>
    intro i
    induction i with
    | zero => intro _; simp only [Nat.zero_mul, Nat.zero_add]; rfl
    | succ i ih =>
      intro h
      have := ih (by omega)
      have g := zsg_at x 0 (show i < x.2.2.1 by omega)
      show zsU x (0 * x.2.2.1 + i) + zusN (zsg x (0 * x.2.2.1 + i)) = _
      rw [this, g, Nat.add_assoc]
      rfl
  | succ a iha =>
    intro i
    induction i with
    | zero =>
      intro _
      have := iha x.2.2.1 (Nat.le_refl _)
      rw [show (a + 1) * x.2.2.1 + 0 = a * x.2.2.1 + x.2.2.1 by rw [Nat.add_mul]; omega, this, Nat.add_mul]
      show a * zuR x + zuR x = a * zuR x + 1 * zuR x + 0
      omega
    | succ i ih =>
      intro h
      have := ih (by omega)
      have g := zsg_at x (a + 1) (show i < x.2.2.1 by omega)
      show zsU x ((a + 1) * x.2.2.1 + i) + zusN (zsg x ((a + 1) * x.2.2.1 + i)) = _
      rw [this, g, Nat.add_assoc]
      rfl
theorem zsM_at (x : zRt) : ∀ a i, i ≤ x.2.2.1 → zsM x (a * x.2.2.1 + i) = a * zmR x + zmS x.2.2.2 i := by
  intro a
  induction a with
  | zero =>
    intro i
    induction i with
    | zero => intro _; simp only [Nat.zero_mul, Nat.zero_add]; rfl
    | succ i ih =>
      intro h
      have := ih (by omega)
      have g := zsg_at x 0 (show i < x.2.2.1 by omega)
      show zsM x (0 * x.2.2.1 + i) + zmkN (zsg x (0 * x.2.2.1 + i)) = _
      rw [this, g, Nat.add_assoc]
      rfl
  | succ a iha =>
    intro i
    induction i with
    | zero =>
      intro _
      have := iha x.2.2.1 (Nat.le_refl _)
      rw [show (a + 1) * x.2.2.1 + 0 = a * x.2.2.1 + x.2.2.1 by rw [Nat.add_mul]; omega, this, Nat.add_mul]
      show a * zmR x + zmR x = a * zmR x + 1 * zmR x + 0
      omega
    | succ i ih =>
      intro h
      have := ih (by omega)
      have g := zsg_at x (a + 1) (show i < x.2.2.1 by omega)
      show zsM x ((a + 1) * x.2.2.1 + i) + zmkN (zsg x ((a + 1) * x.2.2.1 + i)) = _
      rw [this, g, Nat.add_assoc]
      rfl
/-- where all is used up, and all is made -/
theorem zall_at {ring r : Nat} {rd : Nat → zRt} (h : zlp ring rd (r + 1) ≠ 0) : zsU (rd r) (zT ring rd r) = zlp ring rd r ∧ zsM (rd r) (zT ring rd r) = zlp ring rd (r + 1) := by
  have e1 := zsU_at (rd r) (zlp ring rd r / zuR (rd r)) 0 (Nat.zero_le _)
  have e2 := zsM_at (rd r) (zlp ring rd r / zuR (rd r)) 0 (Nat.zero_le _)
  simp only [Nat.add_zero] at e1 e2
  unfold zT
  rw [e1, e2]
  simp only [zlp, zco] at h ⊢
  by_cases c1 : zuR (rd r) = 0 ∨ zlp ring rd r % zuR (rd r) ≠ 0
  · rw [if_pos c1] at h
    exact absurd rfl h
  · rw [if_neg c1] at h ⊢
    have c2 : zlp ring rd r % zuR (rd r) = 0 := Classical.byContradiction (fun q => c1 (Or.inr q))
    by_cases c3 : 60 < zlp ring rd r / zuR (rd r) * zmR (rd r)
    · rw [if_pos c3] at h
      exact absurd rfl h
    · rw [if_neg c3]
      refine ⟨?_, rfl⟩
      show zlp ring rd r / zuR (rd r) * zuR (rd r) = _
      have := Nat.div_add_mod (zlp ring rd r) (zuR (rd r))
      rw [c2, Nat.mul_comm] at this
      omega
/-- at which sign loop k is made -/
def zwh (x : zRt) : Nat → Nat → Nat
  | 0, _ => 0
  | t + 1, k => if zsM x t ≤ k then t else zwh x t k
theorem zwh_ok (x : zRt) : ∀ T k, k < zsM x T → zwh x T k < T ∧ zsM x (zwh x T k) ≤ k ∧ k < zsM x (zwh x T k + 1)
  | 0, k, h => absurd h (by show ¬ k < 0; omega)
  | T + 1, k, h => by
    unfold zwh
    by_cases c : zsM x T ≤ k
    · rw [if_pos c]
      exact ⟨by omega, c, h⟩
    · rw [if_neg c]
      obtain ⟨a, b, d⟩ := zwh_ok x T k (by omega)
      exact ⟨by omega, b, d⟩
/-- ROOTS -/
def zro (ring : Nat) (rd : Nat → zRt) : Nat → Nat → Int32
  | 0, k => 1 <<< (nI k &&& 31)
  | r + 1, k => zor (zro ring rd r) (zsU (rd r) (zwh (rd r) (zT ring rd r) k)) (zusN (zsg (rd r) (zwh (rd r) (zT ring rd r) k)))
theorem zor_cong {f g : Nat → Int32} {u : Nat} : ∀ c, (∀ i, u ≤ i → i < u + c → f i = g i) → zor f u c = zor g u c
  | 0, _ => rfl
  | c + 1, h => by
    simp only [zor]
    rw [zor_cong c (fun i a b => h i a (by omega)), h (u + c) (by omega) (by omega)]
/-- what the rows tell of loop k -/
def zLk4 (x : zRt) (T : Nat) (k : Nat) : Nat × Int32 × Int32 := (zsg x (zwh x T k), (if zusN (zsg x (zwh x T k)) = 0 then -9 else nI (zsU x (zwh x T k))), (if zusN (zsg x (zwh x T k)) = 0 then -9 else nI (zsU x (zwh x T k) + zusN (zsg x (zwh x T k)) - 1)))
theorem zLr.at {x : zRt} {T k : Nat} {below bs fi la ro : Nat → Int32} (h : zLr x T below bs fi la ro) (hk : k < zsM x T) : bs k = nI (zLk4 x T k).1 ∧ fi k = (zLk4 x T k).2.1 ∧ la k = (zLk4 x T k).2.2 ∧ ro k = zor below (zsU x (zwh x T k)) (zusN (zsg x (zwh x T k))) := by
  obtain ⟨a, b, c⟩ := zwh_ok x T k hk
  have h1 := h (zwh x T k) a (k - zsM x (zwh x T k)) (by simp only [zsM] at c; omega)
  rw [show zsM x (zwh x T k) + (k - zsM x (zwh x T k)) = k by omega] at h1
  exact h1
/-- rows under way: t signs are worked, and q loops of the next one -/
def zLw (L : Nat) (x : zRt) (below bs fi la ro ab : Nat → Int32) (t q : Nat) : Prop := zLr x t below bs fi la ro ∧
  (∀ q', q' < q → bs (zsM x t + q') = nI (zsg x t) ∧ fi (zsM x t + q') = (if zusN (zsg x t) = 0 then -9 else nI (zsU x t)) ∧ la (zsM x t + q') = (if zusN (zsg x t) = 0 then -9 else nI (zsU x t + zusN (zsg x t) - 1)) ∧ ro (zsM x t + q') = zor below (zsU x t) (zusN (zsg x t))) ∧
  ∀ k, k < L → ab k = nI (zab x t k + if zsU x t ≤ k ∧ k < zsU x (t + 1) then q else 0)
theorem zLw.next {L : Nat} {x : zRt} {below bs fi la ro ab : Nat → Int32} {t : Nat} (h : zLw L x below bs fi la ro ab t (zmkN (zsg x t))) : zLw L x below bs fi la ro ab (t + 1) 0 := by
  obtain ⟨h1, h2, h3⟩ := h
  refine ⟨fun t' ht q hq => ?_, fun q' h => absurd h (Nat.not_lt_zero _), fun k hk => ?_⟩
  · by_cases e : t' = t
    · subst e
      exact h2 q hq
    · exact h1 t' (by omega) q hq
  · rw [h3 k hk]
    simp only [zab]
    congr 1
    by_cases c : zsU x (t + 1) ≤ k ∧ k < zsU x (t + 1 + 1)
    · rw [if_pos c]; omega
    · rw [if_neg c]; omega
theorem zLw.put {L : Nat} {x : zRt} {below bs fi la ro ab bs' fi' la' ro' ab' : Nat → Int32} {t q : Nat} (h : zLw L x below bs fi la ro ab t q)
    (e1 : ∀ k, k < zsM x t + q → bs' k = bs k ∧ fi' k = fi k ∧ la' k = la k ∧ ro' k = ro k)
    (e2 : bs' (zsM x t + q) = nI (zsg x t) ∧ fi' (zsM x t + q) = (if zusN (zsg x t) = 0 then -9 else nI (zsU x t)) ∧ la' (zsM x t + q) = (if zusN (zsg x t) = 0 then -9 else nI (zsU x t + zusN (zsg x t) - 1)) ∧ ro' (zsM x t + q) = zor below (zsU x t) (zusN (zsg x t)))
    (e3 : ∀ k, k < L → ab' k = if zsU x t ≤ k ∧ k < zsU x (t + 1) then ab k + 1 else ab k) : zLw L x below bs' fi' la' ro' ab' t (q + 1) := by
  obtain ⟨h1, h2, h3⟩ := h
  refine ⟨fun t' ht q' hq => ?_, fun q' hq => ?_, fun k hk => ?_⟩
  · have hm := zsM_mn x (show t' + 1 ≤ t by omega)
    simp only [zsM] at hm
    obtain ⟨a, b, c, d⟩ := e1 (zsM x t' + q') (by omega)
    rw [a, b, c, d]
    exact h1 t' ht q' hq
  · by_cases e : q' = q
    · subst e
      exact e2
    · obtain ⟨a, b, c, d⟩ := e1 (zsM x t + q') (by omega)
      rw [a, b, c, d]
      exact h2 q' (by omega)
  · rw [e3 k hk, h3 k hk]
    by_cases c : zsU x t ≤ k ∧ k < zsU x (t + 1)
    · rw [if_pos c, if_pos c, if_pos c, nI_1]
      congr 1
    · rw [if_neg c, if_neg c, if_neg c]
