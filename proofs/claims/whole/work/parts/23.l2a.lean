/-! DESK AND MODEL, purely: declare -/
theorem rdP_w {st nm nu x : Nat} (h1 : 1 ≤ st) (h2 : st ≤ 6) : (rdP st nm nu x).1 = 5 ∨ ((rdP st nm nu x).1 = 1 ∧ 1 ≤ (rdP st nm nu x).2.1 ∧ (rdP st nm nu x).2.1 ≤ 6) ∨ (((rdP st nm nu x).1 = 2 ∨ (rdP st nm nu x).1 = 3 ∨ (rdP st nm nu x).1 = 4) ∧ (rdP st nm nu x).2.1 = 0) := by
  obtain rfl | rfl | rfl | rfl | rfl | rfl : st = 1 ∨ st = 2 ∨ st = 3 ∨ st = 4 ∨ st = 5 ∨ st = 6 := by omega
  · rw [rdP_1]; unfold rdAmp; (repeat' split) <;> simp
  · rw [rdP_2]; (repeat' split) <;> simp
  · rw [rdP_3]; unfold rdDig; (repeat' split) <;> simp
  · rw [rdP_4]; unfold rdFin rdDig; (repeat' split) <;> simp
  · rw [rdP_5]; unfold rdDig; (repeat' split) <;> simp
  · rw [rdP_6]; unfold rdFin rdDig; (repeat' split) <;> simp
theorem drX_at {kept dr c : Nat} {tx : Nat → Nat} : drX 0 (kept + dr) c tx = drX kept dr c tx := by
  unfold drX
  rw [Nat.zero_add]
def dL (kept : Nat) : List Nat → Nat → DS → DS
  | [], _, S => S
  | c :: l, i, S => if S.1 = 0 then dL kept l (i + 1) (dStep kept c i S.1 S.2.1 S.2.2.1 S.2.2.2.1 S.2.2.2.2.1 S.2.2.2.2.2.1 S.2.2.2.2.2.2.1 S.2.2.2.2.2.2.2) else S
theorem dLoop_seg {kept : Nat} {hand : Nat → Nat} : ∀ (k i : Nat) (S : DS), dLoop kept hand k i S = dL kept (seg hand i k) i S := by
  intro k
  induction k with
  | zero => intro i S; rfl
  | succ k ih =>
    intro i S
    show (if S.1 = 0 then _ else S) = (if S.1 = 0 then _ else S)
    split
    · exact ih _ _
    · rfl
theorem dL_stop {kept : Nat} {l : List Nat} {i : Nat} {S : DS} (h : S.1 ≠ 0) : dL kept l i S = S := by
  cases l with
  | nil => rfl
  | cons c l => show (if S.1 = 0 then _ else S) = S; rw [if_neg h]
/-- what reading on, within a reference, comes to -/
def dRes (kept i : Nat) (fp : Int32) (op : Nat) (tx : Nat → Nat) (dr len : Nat) (T : Nat × Nat × Nat × List Nat) (X : DS) : Prop :=
  (T.1 = 9 ∧ T.2.2.2 = [] ∧ ∃ st nm nu, st ≠ 0 ∧ X = (0, fp, op, tx, dr, st, nm, nu)) ∨
  (T.1 = 5 ∧ ∃ st nm nu, X = (2, nI (i + (len - T.2.2.2.length)), op, tx, dr, st, nm, nu)) ∨
  (T.1 = 4 ∧ ∃ st nm nu, X = (8, nI op, op, tx, dr, st, nm, nu)) ∨
  (T.1 = 2 ∧ X = dL kept T.2.2.2 (i + (len - T.2.2.2.length)) (0, fp, op, drX kept dr T.2.2.1 tx, dr + 1, 0, T.2.1, T.2.2.1)) ∨
  (T.1 = 3 ∧ X = dL kept T.2.2.2 (i + (len - T.2.2.2.length)) (0, fp, op, drX kept (dr + 1 + 1) 59 (drX kept (dr + 1) (97 + T.2.1) (drX kept dr 38 tx)), dr + 1 + 1 + 1, 0, T.2.1, T.2.2.1))
theorem dL_run {kept : Nat} {fp : Int32} {op : Nat} {tx : Nat → Nat} {dr : Nat} : ∀ (l : List Nat) (i st nm nu : Nat), (∀ y ∈ l, y < 256) → 1 ≤ st → st ≤ 6 → dRes kept i fp op tx dr l.length (mRun st nm nu l) (dL kept l i (0, fp, op, tx, dr, st, nm, nu)) := by
  intro l
  induction l with
  | nil => intro i st nm nu hl h1 h2; exact Or.inl ⟨rfl, rfl, st, nm, nu, by omega, rfl⟩
  | cons x l ih =>
    intro i st nm nu hl h1 h2
    have hx : x < 256 := hl x List.mem_cons_self
    have hl2 : ∀ y ∈ l, y < 256 := fun y hy => hl y (List.mem_cons_of_mem _ hy)
    have hc : (x :: l).length = l.length + 1 := rfl
    have hO : dOp st i op = op := by unfold dOp; rw [if_neg (by omega)]
    have hstep : dL kept (x :: l) i (0, fp, op, tx, dr, st, nm, nu) = dL kept l (i + 1) (dStep kept x i 0 fp op tx dr st nm nu) := by
      show (if (0 : Nat) = 0 then _ else _) = _
      rw [if_pos rfl]
    rw [hstep]
    unfold dStep
    rw [hO]
    obtain ⟨w, st', nm', nu', hr⟩ : ∃ w st' nm' nu', rdP st nm nu x = (w, st', nm', nu') := ⟨_, _, _, _, rfl⟩
    have hw := rdP_w (nm := nm) (nu := nu) (x := x) h1 h2
    rw [hr] at hw ⊢
    dsimp only at hw ⊢
    rcases hw with rfl | ⟨rfl, hw1, hw2⟩ | ⟨hw, rfl⟩
    · rw [dL_stop (by show fltK 5 0 ≠ 0; decide), mRun_bad hx hr]
      refine Or.inr (Or.inl ⟨rfl, st', nm', nu', ?_⟩)
      rw [Nat.sub_self]
      rfl
    · rw [mRun_go hx hr]
      have h := ih (i + 1) st' nm' nu' hl2 hw1 hw2
      have hlen := mRun_len (l := l) (st := st') (nm := nm') (nu := nu')
      have e : i + ((x :: l).length - (mRun st' nm' nu' l).2.2.2.length) = i + 1 + (l.length - (mRun st' nm' nu' l).2.2.2.length) := by omega
      unfold dRes at h ⊢
      rw [e]
      exact h
    · have hm := mRun_out (l := l) hx hr (by omega) (by omega)
      rw [hm]
      have e : i + ((x :: l).length - l.length) = i + 1 := by omega
      rcases hw with rfl | rfl | rfl
      · refine Or.inr (Or.inr (Or.inr (Or.inl ⟨rfl, ?_⟩)))
        dsimp only
        rw [e]
        rfl
      · refine Or.inr (Or.inr (Or.inr (Or.inr ⟨rfl, ?_⟩)))
        dsimp only
        rw [e]
        rfl
      · rw [dL_stop (by show fltK 4 0 ≠ 0; decide)]
        exact Or.inr (Or.inr (Or.inl ⟨rfl, 0, nm', nu', rfl⟩))
/-- the desk's drafting and the model's declare come to the same -/
theorem decl_main {kept : Nat} : ∀ (m : Nat) (l : List Nat), l.length ≤ m → (∀ y ∈ l, y < 256) → ∀ (i op : Nat) (tx : Nat → Nat) (dr nm nu : Nat), ∃ N a b X, X = dEnd (i + l.length) (dL kept l i (0, -1, op, tx, dr, 0, nm, nu)) ∧ mDl N l i (kept + dr) tx (X.1, X.2.1, a, b, kept + X.2.2.2.2.1, X.2.2.2.1) := by
  intro m
  induction m with
  | zero =>
    intro l hm hl i op tx dr nm nu
    obtain rfl : l = [] := List.length_eq_zero_iff.mp (by omega)
    exact ⟨1, 0, i, _, rfl, rfl⟩
  | succ m ih =>
    intro l hm hl i op tx dr nm nu
    cases l with
    | nil => exact ⟨1, 0, i, _, rfl, rfl⟩
    | cons x l =>
      have hx : x < 256 := hl x List.mem_cons_self
      have hl2 : ∀ y ∈ l, y < 256 := fun y hy => hl y (List.mem_cons_of_mem _ hy)
      have hc : (x :: l).length = l.length + 1 := rfl
      have e0 : i + (x :: l).length = i + 1 + l.length := by omega
      have hstep : dL kept (x :: l) i (0, -1, op, tx, dr, 0, nm, nu) = dL kept l (i + 1) (dStep kept x i 0 (-1) op tx dr 0 nm nu) := by
        show (if (0 : Nat) = 0 then _ else _) = _
        rw [if_pos rfl]
      rw [hstep, e0]
      by_cases h38 : x = 38
      · subst h38
        have hS : dStep kept 38 i 0 (-1) op tx dr 0 nm nu = (0, -1, i, tx, dr, 1, nm, nu) := rfl
        rw [hS]
        have hr := dL_run (kept := kept) (fp := -1) (op := i) (tx := tx) (dr := dr) l (i + 1) 1 nm nu hl2 (by decide) (by decide)
        obtain ⟨T, hT⟩ : ∃ T, T = mRun 1 nm nu l := ⟨_, rfl⟩
        have hlen : T.2.2.2.length ≤ l.length := by rw [hT]; exact mRun_len
        have hmem : ∀ y ∈ T.2.2.2, y < 256 := by rw [hT]; exact mRun_mem hl2
        rw [← hT] at hr
        rcases hr with ⟨w, hre, st, nm', nu', hst, hX⟩ | ⟨w, st, nm', nu', hX⟩ | ⟨w, st, nm', nu', hX⟩ | ⟨w, hX⟩ | ⟨w, hX⟩
        · refine ⟨1, T.2.2.2.length, i + 1 + (l.length - T.2.2.2.length), _, rfl, nm, nu, ?_⟩
          rw [if_pos rfl, ← hT, if_neg (by omega), if_neg (by omega), if_neg (by omega), if_neg (by omega), hX]
          unfold dEnd
          rw [if_pos ⟨rfl, hst⟩]
          have e1 : i + 1 + (l.length - T.2.2.2.length) = i + 1 + l.length := by rw [hre]; rfl
          rw [e1]
        · refine ⟨1, T.2.2.2.length, i + 1 + (l.length - T.2.2.2.length), _, rfl, nm, nu, ?_⟩
          rw [if_pos rfl, ← hT, if_neg (by omega), if_neg (by omega), if_neg (by omega), if_neg (by omega), hX]
          unfold dEnd
          rw [if_neg (by dsimp only; omega)]
        · refine ⟨1, T.2.2.2.length, i + 1 + (l.length - T.2.2.2.length), _, rfl, nm, nu, ?_⟩
          rw [if_pos rfl, ← hT, if_neg (by omega), if_neg (by omega), if_pos w, if_pos w, hX]
          unfold dEnd
          rw [if_neg (by dsimp only; omega)]
        · obtain ⟨N, a, b, X, h1, h2⟩ := ih T.2.2.2 (by omega) hmem (i + 1 + (l.length - T.2.2.2.length)) i (drX kept dr T.2.2.1 tx) (dr + 1) T.2.1 T.2.2.1
          rw [show i + 1 + (l.length - T.2.2.2.length) + T.2.2.2.length = i + 1 + l.length by omega, ← hX] at h1
          refine ⟨N + 1, a, b, X, h1, nm, nu, ?_⟩
          rw [if_pos rfl, ← hT, if_neg (by omega), if_pos w, drX_at]
          exact h2
        · obtain ⟨N, a, b, X, h1, h2⟩ := ih T.2.2.2 (by omega) hmem (i + 1 + (l.length - T.2.2.2.length)) i (drX kept (dr + 1 + 1) 59 (drX kept (dr + 1) (97 + T.2.1) (drX kept dr 38 tx))) (dr + 1 + 1 + 1) T.2.1 T.2.2.1
          rw [show i + 1 + (l.length - T.2.2.2.length) + T.2.2.2.length = i + 1 + l.length by omega, ← hX] at h1
          refine ⟨N + 1, a, b, X, h1, nm, nu, ?_⟩
          rw [if_pos rfl, ← hT, if_pos w, drX_at, show kept + dr + 1 = kept + (dr + 1) by omega, drX_at, show kept + (dr + 1) + 1 = kept + (dr + 1 + 1) by omega, drX_at]
          exact h2
      · have hS : dStep kept x i 0 (-1) op tx dr 0 nm nu = (0, -1, i, drX kept dr x tx, dr + 1, 0, nm, nu) := by
          have hr : rdP 0 nm nu x = (0, 0, nm, nu) := by rw [rdP_0, if_neg h38]
          unfold dStep
          rw [hr]
          rfl
        rw [hS]
        obtain ⟨N, a, b, X, h1, h2⟩ := ih l (by omega) hl2 (i + 1) i (drX kept dr x tx) (dr + 1) nm nu
        refine ⟨N + 1, a, b, X, h1, nm, nu, ?_⟩
        rw [if_neg h38, drX_at]
        exact h2
