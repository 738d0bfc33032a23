/-! DESK AND MODEL, purely: expand -/
def gL (goI : Nat → RS → RS) (x : Nat) : List Nat → Nat → RS → RS
  | [], _, S => S
  | c :: l, i, S => if S.1 = 0 then gL goI x l (i + 1) (gChar goI c (gAt x i S) (gOp x i S)) else S
theorem gLoop_seg {goI : Nat → RS → RS} {x : Nat} {f : Nat → Nat} : ∀ (k i : Nat) (S : RS), gLoop goI x f k i S = gL goI x (seg f i k) i S := by
  intro k
  induction k with
  | zero => intro i S; rfl
  | succ k ih =>
    intro i S
    show (if S.1 = 0 then _ else S) = (if S.1 = 0 then _ else S)
    split
    · exact ih _ _
    · rfl
theorem gL_stop {goI : Nat → RS → RS} {x : Nat} {l : List Nat} {i : Nat} {S : RS} (h : S.1 ≠ 0) : gL goI x l i S = S := by
  cases l with
  | nil => rfl
  | cons c l => show (if S.1 = 0 then _ else S) = S; rw [if_neg h]
/-- what reading on, within a reference, comes to -/
def gRes (goI : Nat → RS → RS) (x i : Nat) (fp : Int32) (op : Nat) (out : Nat → Nat) (ol me : Nat) (pu : Int32) (de : Nat) (opn : Nat → Nat) (len : Nat) (T : Nat × Nat × Nat × List Nat) (X : RS) : Prop :=
  (T.1 = 9 ∧ T.2.2.2 = [] ∧ ∃ st nm nu, st ≠ 0 ∧ X = (0, fp, op, out, ol, me, pu, de, opn, st, nm, nu)) ∨
  (T.1 = 5 ∧ ∃ st nm nu, X = (2, nI (if x = 0 then i + (len - T.2.2.2.length) else op), op, out, ol, me, pu, de, opn, st, nm, nu)) ∨
  (T.1 = 4 ∧ ∃ st nm nu, X = (8, nI op, op, out, ol, me, pu, de, opn, st, nm, nu)) ∨
  (T.1 = 2 ∧ X = gL goI x T.2.2.2 (i + (len - T.2.2.2.length)) (gGive T.2.2.1 (0, fp, op, out, ol, me, pu, de, opn, 0, T.2.1, T.2.2.1))) ∨
  (T.1 = 3 ∧ X = gL goI x T.2.2.2 (i + (len - T.2.2.2.length)) (goI T.2.1 (0, fp, op, out, ol, me, pu, de, opn, 0, T.2.1, T.2.2.1)))
theorem gL_run {goI : Nat → RS → RS} {x : Nat} {fp : Int32} {op : Nat} {out : Nat → Nat} {ol me : Nat} {pu : Int32} {de : Nat} {opn : Nat → Nat} : ∀ (l : List Nat) (i st nm nu : Nat), (∀ y ∈ l, y < 256) → 1 ≤ st → st ≤ 6 → gRes goI x i fp op out ol me pu de opn l.length (mRun st nm nu l) (gL goI x l i (0, fp, op, out, ol, me, pu, de, opn, st, nm, nu)) := by
  intro l
  induction l with
  | nil => intro i st nm nu hl h1 h2; exact Or.inl ⟨rfl, rfl, st, nm, nu, by omega, rfl⟩
  | cons y l ih =>
    intro i st nm nu hl h1 h2
    have hy : y < 256 := hl y List.mem_cons_self
    have hl2 : ∀ z ∈ l, z < 256 := fun z hz => hl z (List.mem_cons_of_mem _ hz)
    have hc : (y :: l).length = l.length + 1 := rfl
    have hO : gOp x i (0, fp, op, out, ol, me, pu, de, opn, st, nm, nu) = (0, fp, op, out, ol, me, pu, de, opn, st, nm, nu) := by
      show (0, fp, (if x = 0 then dOp st i op else op), out, ol, me, pu, de, opn, st, nm, nu) = _
      have : (if x = 0 then dOp st i op else op) = op := by
        unfold dOp
        rw [if_neg (show ¬ st = 0 by omega)]
        split <;> rfl
      rw [this]
    have hA : gAt x i (0, fp, op, out, ol, me, pu, de, opn, st, nm, nu) = if x = 0 then i else op := rfl
    have hstep : gL goI x (y :: l) i (0, fp, op, out, ol, me, pu, de, opn, st, nm, nu) = gL goI x l (i + 1) (gChar goI y (if x = 0 then i else op) (0, fp, op, out, ol, me, pu, de, opn, st, nm, nu)) := by
      show (if (0 : Nat) = 0 then _ else _) = _
      rw [if_pos rfl, hO, hA]
    rw [hstep]
    obtain ⟨w, st', nm', nu', hr⟩ : ∃ w st' nm' nu', rdP st nm nu y = (w, st', nm', nu') := ⟨_, _, _, _, rfl⟩
    have hw := rdP_w (nm := nm) (nu := nu) (x := y) h1 h2
    have hgr : gRd y (0, fp, op, out, ol, me, pu, de, opn, st, nm, nu) = (w, st', nm', nu') := hr
    have hgd : ∀ at', gRead y at' (0, fp, op, out, ol, me, pu, de, opn, st, nm, nu) = (fltK w 0, fltP w at' op fp, op, out, ol, me, pu, de, opn, st', nm', nu') := by
      intro at'
      show (fltK (rdP st nm nu y).1 0, _, _, _, _, _, _, _, _, _, _, _) = _
      rw [hr]
    rw [hr] at hw
    dsimp only at hw
    unfold gChar
    rw [hgr, hgd]
    dsimp only
    rcases hw with rfl | ⟨rfl, hw1, hw2⟩ | ⟨hw, rfl⟩
    · rw [if_neg (by decide), if_neg (by decide), if_neg (by decide), gL_stop (by show fltK 5 0 ≠ 0; decide), mRun_bad hy hr]
      refine Or.inr (Or.inl ⟨rfl, st', nm', nu', ?_⟩)
      dsimp only
      rw [Nat.sub_self]
      rfl
    · rw [if_neg (by decide), if_neg (by decide), if_neg (by decide), mRun_go hy hr]
      have h := ih (i + 1) st' nm' nu' hl2 hw1 hw2
      have hlen := mRun_len (l := l) (st := st') (nm := nm') (nu := nu')
      have e : i + ((y :: l).length - (mRun st' nm' nu' l).2.2.2.length) = i + 1 + (l.length - (mRun st' nm' nu' l).2.2.2.length) := by omega
      unfold gRes at h ⊢
      rw [e]
      exact h
    · have hm := mRun_out (l := l) hy hr (by omega) (by omega)
      rw [hm]
      have e : i + ((y :: l).length - l.length) = i + 1 := by omega
      rcases hw with rfl | rfl | rfl
      · rw [if_neg (by decide), if_pos rfl]
        refine Or.inr (Or.inr (Or.inr (Or.inl ⟨rfl, ?_⟩)))
        dsimp only
        rw [e]
        rfl
      · rw [if_neg (by decide), if_neg (by decide), if_pos rfl]
        refine Or.inr (Or.inr (Or.inr (Or.inr ⟨rfl, ?_⟩)))
        dsimp only
        rw [e]
        rfl
      · rw [if_neg (by decide), if_neg (by decide), if_neg (by decide), gL_stop (by show fltK 4 0 ≠ 0; decide)]
        exact Or.inr (Or.inr (Or.inl ⟨rfl, 0, nm', nu', rfl⟩))
theorem mRun_app {r : List Nat} (hr : pkN r = 0) : ∀ (l : List Nat) (st nm nu : Nat), (∀ y ∈ l, y < 256) → mRun st nm nu (l ++ r) = ((mRun st nm nu l).1, (mRun st nm nu l).2.1, (mRun st nm nu l).2.2.1, (mRun st nm nu l).2.2.2 ++ r) := by
  intro l
  induction l with
  | nil => intro st nm nu h; rw [List.nil_append, mRun_end hr]; rfl
  | cons x l ih =>
    intro st nm nu h
    have hx : x < 256 := h x List.mem_cons_self
    have hl2 : ∀ y ∈ l, y < 256 := fun y hy => h y (List.mem_cons_of_mem _ hy)
    obtain ⟨w, st', nm', nu', hq⟩ : ∃ w st' nm' nu', rdP st nm nu x = (w, st', nm', nu') := ⟨_, _, _, _, rfl⟩
    rw [List.cons_append]
    by_cases h1 : w = 1
    · subst h1
      rw [mRun_go hx hq, mRun_go hx hq]
      exact ih _ _ _ hl2
    · by_cases h5 : w = 5
      · subst h5
        rw [mRun_bad hx hq, mRun_bad hx hq]
        rfl
      · rw [mRun_out hx hq h1 h5, mRun_out hx hq h1 h5]
/-! how much stands open -/
def osum (opn ln : Nat → Nat) : Nat → Nat
  | 0 => 0
  | k + 1 => osum opn ln k + (if opn k = 0 then 0 else ln k - 1)
def tsum (ln : Nat → Nat) : Nat → Nat
  | 0 => 0
  | k + 1 => tsum ln k + (ln k - 1)
theorem osum_le {opn ln : Nat → Nat} : ∀ k, osum opn ln k ≤ tsum ln k := by
  intro k
  induction k with
  | zero => exact Nat.le_refl _
  | succ k ih => show _ + _ ≤ _ + _; split <;> omega
theorem osum_upd {opn ln : Nat → Nat} {j : Nat} (hj : opn j = 0) : ∀ k, osum (updN opn j 1) ln k = osum opn ln k + (if j < k then ln j - 1 else 0) := by
  intro k
  induction k with
  | zero => rfl
  | succ k ih =>
    show osum (updN opn j 1) ln k + (if updN opn j 1 k = 0 then 0 else ln k - 1) = osum opn ln k + (if opn k = 0 then 0 else ln k - 1) + _
    rw [ih]
    by_cases h : k = j
    · subst h
      have : updN opn k 1 k = 1 := by unfold updN; rw [if_pos rfl]
      rw [this, if_neg (by omega), if_neg (by omega), if_pos hj, if_pos (by omega)]
    · have : updN opn j 1 k = opn k := by unfold updN; rw [if_neg h]
      rw [this]
      by_cases h2 : j < k
      · rw [if_pos h2, if_pos (show j < k + 1 by omega)]; omega
      · rw [if_neg h2, if_neg (show ¬ j < k + 1 by omega)]; omega
theorem go_ok {tx sf ln : Nat → Nat} {q nm nu n : Nat} {M M' : MS} {Z : Int32 × MS} (hne : M.1 ≠ []) (hs : mSafe ln q M) (hm : mStep tx sf ln q nm nu M = (nI 0, M')) (h : mGo tx sf ln q n M' Z) : mGo tx sf ln q (n + 1) M Z := by
  rw [mGo, if_neg hne]
  exact ⟨nm, nu, hs, by rw [hm, if_pos rfl]; exact h⟩
theorem go_fail {tx sf ln : Nat → Nat} {q nm nu : Nat} {M M' : MS} (hne : M.1 ≠ []) (hs : mSafe ln q M) (hm : mStep tx sf ln q nm nu M = (-1, M')) : mGo tx sf ln q 1 M (-1, M') := by
  rw [mGo, if_neg hne]
  refine ⟨nm, nu, hs, ?_⟩
  rw [hm, if_neg (show ¬ (-1 : Int32) = nI 0 by decide)]
/-- how a text's putting together ends, and what the model has come to -/
def Done (tx sf ln : Nat → Nat) (q x nx1 ou : Nat) (r : List Nat) (opn : Nat → Nat) (G : RS) (M : MS) : Prop :=
  ∃ (fa : Nat) (fp : Int32) (op : Nat) (out : Nat → Nat) (ol me : Nat) (pu : Int32) (de : Nat) (opn' : Nat → Nat) (st nm nu : Nat), G = (fa, fp, op, out, ol, me, pu, de, opn', st, nm, nu) ∧ opn' = opn ∧ ol ≤ 3000 ∧
  ((fa = 0 ∧ fp = -1 ∧ st = 0 ∧ (0 < x → op = ou) ∧ me ≤ 100000 ∧ de ≤ 12 ∧ ∃ ou', (0 < x → ou' = ou) ∧ ∀ n Z, mGo tx sf ln q n (r, x, nx1, ou', 0, -1, out, ol, me, pu, de, opn) Z → ∃ n', mGo tx sf ln q n' M Z) ∨
   (fa ≠ 0 ∧ ∃ n stk dp nx' ou' o', mGo tx sf ln q n M (-1, (stk, dp, nx', ou', fa, fp, out, ol, me, pu, de, o'))))
