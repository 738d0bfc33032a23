/-! THE MODEL'S pure words: its row is a list, the top first; a number from 256 on is a marker -/
def enc (x : Nat) : Int32 := if x < 256 then nI x else -1 - nI (x - 256)
def Row (f : Nat → Int32) : List Nat → Prop
  | [] => True
  | x :: l => f l.length = enc x ∧ Row f l
def pkN : List Nat → Nat
  | [] => 0
  | x :: _ => if x < 256 then x + 1 else 0
def nxP (dp nx : Nat) : Nat := if dp = 0 then nx + 1 else nx
def plP (dp ou : Nat) (x : Int32) : Int32 := if 0 < dp then nI ou else x
def dgN (base c : Nat) : Nat := if 48 ≤ c ∧ c ≤ 57 then c - 47 else if base = 16 ∧ 97 ≤ c ∧ c ≤ 102 then c - 86 else if base = 16 ∧ 65 ≤ c ∧ c ≤ 70 then c - 54 else 0
def seg (f : Nat → Nat) : Nat → Nat → List Nat
  | _, 0 => []
  | a, k + 1 => f a :: seg f (a + 1) k
theorem seg_len (f : Nat → Nat) : ∀ (k a : Nat), (seg f a k).length = k := by
  intro k
  induction k with
  | zero => intro a; rfl
  | succ k ih => intro a; simp [seg, ih]
theorem Row_upd {f : Nat → Int32} {x : Int32} : ∀ {l : List Nat} {k : Nat}, l.length ≤ k → Row f l → Row (upd f k x) l := by
  intro l
  induction l with
  | nil => intro k h r; trivial
  | cons y l ih =>
    intro k h r
    have h1 : l.length + 1 ≤ k := h
    refine ⟨?_, ih (by omega) r.2⟩
    have : ¬ l.length = k := by omega
    show (if l.length = k then x else f l.length) = enc y
    rw [if_neg this]
    exact r.1
theorem Row_push {f : Nat → Int32} {x : Int32} {l : List Nat} {y : Nat} (h : x = enc y) (r : Row f l) : Row (upd f l.length x) (y :: l) := by
  refine ⟨?_, Row_upd (Nat.le_refl _) r⟩
  show (if l.length = l.length then x else f l.length) = enc y
  rw [if_pos rfl]
  exact h
theorem enc_c {x : Nat} (h : x < 256) : enc x = nI x := by unfold enc; rw [if_pos h]
theorem enc_m {x : Nat} (h : 256 ≤ x) : enc x = -1 - nI (x - 256) := by unfold enc; rw [if_neg (by omega)]
theorem pkN_s {l : List Nat} {c : Nat} (h : pkN l = c + 1) : ∃ t, l = c :: t ∧ c < 256 := by
  cases l with
  | nil => cases h
  | cons x t =>
    unfold pkN at h
    dsimp only at h
    split at h
    · exact ⟨t, by congr 1; omega, by omega⟩
    · cases h
theorem pkN_0 {l : List Nat} (h : pkN l = 0) : l = [] ∨ ∃ x t, l = x :: t ∧ 256 ≤ x := by
  cases l with
  | nil => exact Or.inl rfl
  | cons x t =>
    unfold pkN at h
    dsimp only at h
    split at h
    · cases h
    · exact Or.inr ⟨x, t, rfl, by omega⟩
theorem neg_markA : ∀ k, k < 1000 → ¬ (0 : Int32) ≤ -1 - nI k := by decide +kernel
theorem neg_mark {k : Nat} (h : k < 1000) : ¬ (0 : Int32) ≤ -1 - nI k := neg_markA k h
theorem Row_top {f : Nat → Int32} {l : List Nat} {c : Nat} (r : Row f l) (h : pkN l = c + 1) : f (l.length - 1) = nI c ∧ 0 < l.length ∧ c < 256 := by
  obtain ⟨t, rfl, hc⟩ := pkN_s h
  exact ⟨by have := r.1; rw [enc_c hc] at this; simpa using this, by simp, hc⟩
theorem dgN_le (base c : Nat) : dgN base c ≤ 16 := by unfold dgN; (repeat' split) <;> omega
theorem pk_cases (l : List Nat) : pkN l = 0 ∨ ∃ c, pkN l = c + 1 := by
  cases h : pkN l with
  | zero => exact Or.inl rfl
  | succ c => exact Or.inr ⟨c, rfl⟩
theorem dg_cases (base c : Nat) : dgN base c = 0 ∨ ∃ v, dgN base c = v + 1 := by
  cases h : dgN base c with
  | zero => exact Or.inl rfl
  | succ v => exact Or.inr ⟨v, rfl⟩
theorem Row_seg {f : Nat → Int32} {hand : Nat → Nat} {n k : Nat} (hk : k < n) (r : Row f (seg hand (n - k) k)) (hc : hand (n - 1 - k) < 256) : Row (upd f k (nI (hand (n - 1 - k)))) (seg hand (n - (k + 1)) (k + 1)) := by
  have h1 := Row_push (y := hand (n - 1 - k)) (enc_c hc).symm r
  rw [seg_len] at h1
  have h2 : seg hand (n - (k + 1)) (k + 1) = hand (n - 1 - k) :: seg hand (n - k) k := by
    show hand (n - (k + 1)) :: seg hand (n - (k + 1) + 1) k = _
    rw [show n - (k + 1) = n - 1 - k by omega, show n - 1 - k + 1 = n - k by omega]
  rw [h2]
  exact h1
theorem enc_k {k : Nat} (hk : k < 26) : -1 - nI k = enc (256 + k) := by
  unfold enc
  rw [if_neg (by omega), show 256 + k - 256 = k by omega]
theorem lt_pred {b : Nat} (h : b < 2 ^ 31) : nI (b + 0) - 1 < nI b := by
  rw [Nat.add_zero]
  rcases Nat.eq_zero_or_pos b with q | q
  · rw [q]; decide
  · rw [m1_sub (by omega)]
    exact nI_lt (by omega) h
theorem Row_down {f : Nat → Int32} {tx : Nat → Nat} {b n r lf : Nat} {rest : List Nat} (hr : r + 1 ≤ n) (hc : tx (b + r) < 256) (h : Row f (seg tx (b + (r + 1)) (n - (r + 1)) ++ rest)) (hl : lf = n - (r + 1) + rest.length) : Row (upd f lf (nI (tx (b + r)))) (seg tx (b + r) (n - r) ++ rest) := by
  have h1 := Row_push (y := tx (b + r)) (enc_c hc).symm h
  rw [List.length_append, seg_len, ← hl] at h1
  rw [show n - r = n - (r + 1) + 1 by omega]
  exact h1

/-! the model's reading of a reference: the reader's own steps, run over the row -/
def mRun : Nat → Nat → Nat → List Nat → Nat × Nat × Nat × List Nat
  | _, nm, nu, [] => (9, nm, nu, [])
  | st, nm, nu, x :: l => if 256 ≤ x then (9, nm, nu, x :: l) else if (rdP st nm nu x).1 = 1 then mRun (rdP st nm nu x).2.1 (rdP st nm nu x).2.2.1 (rdP st nm nu x).2.2.2 l else if (rdP st nm nu x).1 = 5 then (5, nm, nu, x :: l) else ((rdP st nm nu x).1, (rdP st nm nu x).2.2.1, (rdP st nm nu x).2.2.2, l)
theorem mRun_go {st nm nu x st' nm' nu' : Nat} {l : List Nat} (hx : x < 256) (h : rdP st nm nu x = (1, st', nm', nu')) : mRun st nm nu (x :: l) = mRun st' nm' nu' l := by
  rw [mRun, if_neg (by omega), h, if_pos rfl]
theorem mRun_bad {st nm nu x a b c : Nat} {l : List Nat} (hx : x < 256) (h : rdP st nm nu x = (5, a, b, c)) : mRun st nm nu (x :: l) = (5, nm, nu, x :: l) := by
  rw [mRun, if_neg (by omega), h, if_neg (show ¬ (5 : Nat) = 1 by decide), if_pos rfl]
theorem mRun_end {st nm nu : Nat} {l : List Nat} (h : pkN l = 0) : mRun st nm nu l = (9, nm, nu, l) := by
  rcases pkN_0 h with rfl | ⟨x, t, rfl, hx⟩
  · rfl
  · rw [mRun, if_pos hx]
theorem mRun_out {st nm nu x w st' nm' nu' : Nat} {l : List Nat} (hx : x < 256) (h : rdP st nm nu x = (w, st', nm', nu')) (h1 : w ≠ 1) (h5 : w ≠ 5) : mRun st nm nu (x :: l) = (w, nm', nu', l) := by
  rw [mRun, if_neg (by omega), h, if_neg h1, if_neg h5]
def sB (base : Nat) : Nat := if base = 16 then 6 else 4
def sA (base : Nat) : Nat := if base = 16 then 5 else 3
theorem dgN_vN {base c : Nat} (hb : base = 10 ∨ base = 16) : dgN base c = if base < vN c then 0 else vN c := by
  rcases hb with rfl | rfl
  · unfold dgN vN
    (repeat' split) <;> omega
  · unfold dgN vN
    (repeat' split) <;> omega
theorem dgN_59 {base c : Nat} (h : dgN base c ≠ 0) : c ≠ 59 ∧ c ≠ 120 ∧ c < 256 := by
  unfold dgN at h
  (repeat' split at h) <;> first | omega | exact absurd rfl h
/-- a digit -/
theorem rd_dig {base c v st nm nu : Nat} (hb : base = 10 ∨ base = 16) (hv : dgN base c = v + 1) (next : Nat) : rdDig st nm nu c base next = (1, next, nm, min (nu * base + v) 256) := by
  rw [dgN_vN hb] at hv
  unfold rdDig
  split at hv
  · cases hv
  · rw [if_neg (by omega), hv]; rfl
theorem rd_nodig {base c st nm nu : Nat} (hb : base = 10 ∨ base = 16) (hv : dgN base c = 0) (next : Nat) : rdDig st nm nu c base next = (5, st, nm, nu) := by
  rw [dgN_vN hb] at hv
  unfold rdDig
  split at hv
  · rw [if_pos (by omega)]
  · rw [if_pos (by omega)]
theorem rdP_B {base : Nat} (hb : base = 10 ∨ base = 16) {c nm nu : Nat} (hc : c ≠ 59) : rdP (sB base) nm nu c = rdDig (sB base) nm nu c base (sB base) := by
  rcases hb with rfl | rfl
  · show (if c = 59 then _ else _) = _
    rw [if_neg hc]; rfl
  · show (if c = 59 then _ else _) = _
    rw [if_neg hc]; rfl
theorem rdP_B59 {base : Nat} (hb : base = 10 ∨ base = 16) {nm nu : Nat} : rdP (sB base) nm nu 59 = (if mayN nu = 1 then 2 else 4, 0, nm, nu) := by
  rcases hb with rfl | rfl
  · rfl
  · rfl
theorem rdP_A {base : Nat} (hb : base = 10 ∨ base = 16) {c nm nu : Nat} (hc : base = 10 → c ≠ 120) : rdP (sA base) nm nu c = rdDig (sA base) nm nu c base (sB base) := by
  rcases hb with rfl | rfl
  · show (if c = 120 then _ else _) = _
    rw [if_neg (hc rfl)]; rfl
  · rfl
/-- the first digit: behind '#' or 'x' as within the number -/
theorem mRun_A {base c v nm nu : Nat} {l : List Nat} (hb : base = 10 ∨ base = 16) (hv : dgN base c = v + 1) : mRun (sA base) nm nu (c :: l) = mRun (sB base) nm nu (c :: l) := by
  have h := dgN_59 (base := base) (c := c) (by omega)
  rw [mRun_go h.2.2 ((rdP_A hb (fun _ => h.2.1)).trans (rd_dig hb hv _)), mRun_go h.2.2 ((rdP_B hb h.1).trans (rd_dig hb hv _))]
theorem mRun_B {base c v nm nu : Nat} {l : List Nat} (hb : base = 10 ∨ base = 16) (hv : dgN base c = v + 1) : mRun (sB base) nm nu (c :: l) = mRun (sB base) nm (min (nu * base + v) 256) l := by
  have h := dgN_59 (base := base) (c := c) (by omega)
  exact mRun_go h.2.2 ((rdP_B hb h.1).trans (rd_dig hb hv _))
theorem mRun_Abad {base c nm nu : Nat} {l : List Nat} (hc : c < 256) (hb : base = 10 ∨ base = 16) (hx : base = 10 → c ≠ 120) (hv : dgN base c = 0) : mRun (sA base) nm nu (c :: l) = (5, nm, nu, c :: l) := mRun_bad hc ((rdP_A hb hx).trans (rd_nodig hb hv _))
theorem mRun_Bbad {base c nm nu : Nat} {l : List Nat} (hc : c < 256) (hb : base = 10 ∨ base = 16) (hx : c ≠ 59) (hv : dgN base c = 0) : mRun (sB base) nm nu (c :: l) = (5, nm, nu, c :: l) := mRun_bad hc ((rdP_B hb hx).trans (rd_nodig hb hv _))
theorem mRun_B59 {base nm nu : Nat} {l : List Nat} (hb : base = 10 ∨ base = 16) : mRun (sB base) nm nu (59 :: l) = (if mayN nu = 1 then 2 else 4, nm, nu, l) := mRun_out (by decide) (rdP_B59 hb) (by split <;> decide) (by split <;> decide)
theorem mRun_name {c nm nu : Nat} {l : List Nat} (h1 : 97 ≤ c) (h2 : c ≤ 122) : mRun 1 nm nu (c :: l) = mRun 2 (c - 97) nu l := mRun_go (by omega) (show rdAmp 1 nm nu c = _ by unfold rdAmp; rw [if_neg (by omega), if_pos ⟨h1, h2⟩])
theorem mRun_hash {nm nu : Nat} {l : List Nat} : mRun 1 nm nu (35 :: l) = mRun 3 nm 0 l := mRun_go (by decide) rfl
theorem mRun_amp {c nm nu : Nat} {l : List Nat} (hc : c < 256) (h1 : ¬ (97 ≤ c ∧ c ≤ 122)) (h2 : c ≠ 35) : mRun 1 nm nu (c :: l) = (5, nm, nu, c :: l) := mRun_bad hc (show rdAmp 1 nm nu c = (5, 1, nm, nu) by unfold rdAmp; rw [if_neg h2, if_neg h1])
theorem mRun_n59 {nm nu : Nat} {l : List Nat} : mRun 2 nm nu (59 :: l) = (3, nm, nu, l) := mRun_out (by decide) (show rdP 2 nm nu 59 = (3, 0, nm, nu) from rfl) (by decide) (by decide)
theorem mRun_nbad {c nm nu : Nat} {l : List Nat} (hc : c < 256) (h : c ≠ 59) : mRun 2 nm nu (c :: l) = (5, nm, nu, c :: l) := mRun_bad hc (show (if c = 59 then _ else _) = (5, 2, nm, nu) by rw [if_neg h])
theorem mRun_x {nm nu : Nat} {l : List Nat} : mRun 3 nm nu (120 :: l) = mRun 5 nm nu l := mRun_go (by decide) rfl
/-- how the next place moves -/
def nxK (dp nx k : Nat) : Nat := if dp = 0 then nx + k else nx
theorem nxP_K (dp nx k : Nat) : nxP dp (nxK dp nx k) = nxK dp nx (k + 1) := by
  unfold nxP nxK
  split
  · omega
  · rfl
theorem nxK_0 (dp nx : Nat) : nxK dp nx 0 = nx := by unfold nxK; split <;> omega
/-- what the model's reading of a reference comes to -/
def refPost (dp nx ou x fa : Nat) (pl : Int32) (len : Nat) (T : Nat × Nat × Nat × List Nat) (r : Int32) (u : Nat × Nat × Nat × Int32 × Int32 × Int64) : Prop :=
  u.1 = T.2.2.2.length ∧ u.2.1 = nxK dp nx (len - T.2.2.2.length) ∧
  ((T.1 = 3 ∧ r = nI 0 ∧ u.2.2.2.2.1 = nI T.2.1 ∧ u.2.2.1 = fa ∧ u.2.2.2.1 = pl) ∨ (T.1 = 2 ∧ r = nI 0 ∧ u.2.2.2.2.1 = -1 ∧ u.2.2.2.2.2 = lN T.2.2.1 ∧ T.2.2.1 < 256 ∧ u.2.2.1 = fa ∧ u.2.2.2.1 = pl) ∨ (T.1 = 4 ∧ r = -1 ∧ u.2.2.1 = 8 ∧ u.2.2.2.1 = plP dp ou (nI x)) ∨ (T.1 = 5 ∧ r = -1 ∧ u.2.2.1 = 2 ∧ u.2.2.2.1 = plP dp ou (nI u.2.1)) ∨ (T.1 = 9 ∧ r = -1 ∧ u.2.2.1 = (if 0 < dp then 13 else 2) ∧ u.2.2.2.1 = plP dp ou (nI u.2.1)))
theorem mRun_num : ∀ {l : List Nat} {st nm nu : Nat}, 3 ≤ st → st ≤ 6 → (mRun st nm nu l).1 ≠ 3 := by
  intro l
  induction l with
  | nil => intro st nm nu h1 h2; unfold mRun; simp
  | cons x l ih =>
    intro st nm nu h1 h2
    have hd : ∀ {a b c : Nat}, (rdDig st nm nu x a b).1 = 1 → b = c → 3 ≤ c → c ≤ 6 → 3 ≤ (rdDig st nm nu x a b).2.1 ∧ (rdDig st nm nu x a b).2.1 ≤ 6 := by
      intro a b c h hb h3 h4
      unfold rdDig at h ⊢
      split
      · exact ⟨h1, h2⟩
      · subst hb; exact ⟨h3, h4⟩
    have hw : (rdP st nm nu x).1 ≠ 3 ∧ ((rdP st nm nu x).1 = 1 → 3 ≤ (rdP st nm nu x).2.1 ∧ (rdP st nm nu x).2.1 ≤ 6) := by
      obtain rfl | rfl | rfl | rfl : st = 3 ∨ st = 4 ∨ st = 5 ∨ st = 6 := by omega
      · rw [rdP_3]; unfold rdDig; (repeat' split) <;> simp
      · rw [rdP_4]; unfold rdFin rdDig; (repeat' split) <;> simp
      · rw [rdP_5]; unfold rdDig; (repeat' split) <;> simp
      · rw [rdP_6]; unfold rdFin rdDig; (repeat' split) <;> simp
    unfold mRun
    split
    · simp
    · split
      · rename_i h
        exact ih (hw.2 h).1 (hw.2 h).2
      · split
        · simp
        · exact hw.1
theorem mRun_ent {l : List Nat} {nm nu : Nat} (h : (mRun 1 nm nu l).1 = 3) : ∃ c t, l = c :: 59 :: t ∧ 97 ≤ c ∧ c ≤ 122 ∧ mRun 1 nm nu l = (3, c - 97, nu, t) := by
  cases l with
  | nil => exact absurd h (by unfold mRun; simp)
  | cons c l =>
    by_cases hc : 256 ≤ c
    · rw [mRun, if_pos hc] at h; exact absurd h (by simp)
    · by_cases h1 : 97 ≤ c ∧ c ≤ 122
      · rw [mRun_name h1.1 h1.2] at h ⊢
        cases l with
        | nil => exact absurd h (by unfold mRun; simp)
        | cons d l =>
          by_cases hd : 256 ≤ d
          · rw [mRun, if_pos hd] at h; exact absurd h (by simp)
          · by_cases h2 : d = 59
            · subst h2
              exact ⟨c, l, rfl, h1.1, h1.2, mRun_n59⟩
            · rw [mRun_nbad (by omega) h2] at h; exact absurd h (by simp)
      · by_cases h2 : c = 35
        · subst h2
          rw [mRun_hash] at h
          exact absurd h (mRun_num (by decide) (by decide))
        · rw [mRun_amp (by omega) h1 h2] at h; exact absurd h (by simp)

/-! THE MODEL'S STEP. What it carries: the row (a list), depth, next, outer, fault, place, what is given, how many, the meter, put in, deepest, open -/
abbrev MS : Type := List Nat × Nat × Nat × Nat × Nat × Int32 × (Nat → Nat) × Nat × Nat × Int32 × Nat × (Nat → Nat)
/-- giving one character: the answer and the state -/
def mGive (c x : Nat) : MS → Int32 × MS := fun (stk, dp, nx, ou, fa, pl, out, os, me, pu, de, opn) =>
  if 3000 ≤ os then (-1, (stk, dp, nx, ou, 15, plP dp ou (nI x), out, os, me, pu, de, opn)) else (nI 0, (stk, dp, nx, ou, fa, pl, updN out os c, os + 1, me, pu, de, opn))
def mEnter (tx sf ln : Nat → Nat) (q k x : Nat) : MS → Int32 × MS := fun (stk, dp, nx, ou, fa, pl, out, os, me, pu, de, opn) =>
  if fltE (ln k) (opn k) (dp + 1) me q = 0 then (nI 0, (seg tx (sf k) (ln k - 1) ++ (256 + k) :: stk, dp + 1, nx, if dp = 0 then x else ou, fa, pl, out, os, me + (ln k - 1), pu + nI 1, max de (dp + 1), updN opn k 1))
  else (-1, (stk, dp, nx, ou, fltE (ln k) (opn k) (dp + 1) me q, plP dp ou (nI x), out, os, me, pu, de, opn))
def mFail (w : Nat) (x : Nat) : MS → Int32 × MS := fun (stk, dp, nx, ou, _, _, out, os, me, pu, de, opn) => (-1, (stk, dp, nx, ou, w, plP dp ou (nI x), out, os, me, pu, de, opn))
def mPop (k : Nat) : MS → Int32 × MS := fun (stk, dp, nx, ou, fa, pl, out, os, me, pu, de, opn) => (nI 0, (stk, dp - 1, nx, ou, fa, pl, out, os, me, pu, de, updN opn k 0))
def mTo (stk : List Nat) (nx : Nat) : MS → MS := fun (_, dp, _, ou, fa, pl, out, os, me, pu, de, opn) => (stk, dp, nx, ou, fa, pl, out, os, me, pu, de, opn)
/-- behind an ampersand, when the run over the row has come to T -/
def mRef (tx sf ln : Nat → Nat) (q x len : Nat) (T : Nat × Nat × Nat × List Nat) (M : MS) : Int32 × MS :=
  if T.1 = 3 then mEnter tx sf ln q T.2.1 x (mTo T.2.2.2 (nxK M.2.1 M.2.2.1 (len - T.2.2.2.length)) M)
  else if T.1 = 2 then mGive T.2.2.1 x (mTo T.2.2.2 (nxK M.2.1 M.2.2.1 (len - T.2.2.2.length)) M)
  else if T.1 = 4 then mFail 8 x (mTo T.2.2.2 (nxK M.2.1 M.2.2.1 (len - T.2.2.2.length)) M)
  else if T.1 = 5 then mFail 2 (nxK M.2.1 M.2.2.1 (len - T.2.2.2.length)) (mTo T.2.2.2 (nxK M.2.1 M.2.2.1 (len - T.2.2.2.length)) M)
  else mFail (if 0 < M.2.1 then 13 else 2) (nxK M.2.1 M.2.2.1 (len - T.2.2.2.length)) (mTo T.2.2.2 (nxK M.2.1 M.2.2.1 (len - T.2.2.2.length)) M)
def mStep (tx sf ln : Nat → Nat) (q nm nu : Nat) : MS → Int32 × MS := fun (stk, dp, nx, ou, fa, pl, out, os, me, pu, de, opn) =>
  match stk with
  | [] => (nI 0, ([], dp, nx, ou, fa, pl, out, os, me, pu, de, opn))
  | c :: t => if 256 ≤ c then mPop (c - 256) (t, dp, nx, ou, fa, pl, out, os, me, pu, de, opn)
    else if c = 38 then mRef tx sf ln q nx t.length (mRun 1 nm nu t) (t, dp, nxP dp nx, ou, fa, pl, out, os, me, pu, de, opn)
    else mGive c nx (t, dp, nxP dp nx, ou, fa, pl, out, os, me, pu, de, opn)
/-- a state in which a step may be done: the row is short, what is entered fits -/
def mSafe (ln : Nat → Nat) (q : Nat) : MS → Prop := fun (stk, dp, _, _, _, _, _, os, me, _, de, opn) =>
  stk.length ≤ 2500 ∧ (∀ x ∈ stk, x < 282) ∧ dp ≤ 12 ∧ os ≤ 3000 ∧ me ≤ 100000 ∧ de ≤ 12 ∧ (∀ j, opn j ≤ 1) ∧ (∀ k, k < 26 → fltE (ln k) (opn k) (dp + 1) me q = 0 → stk.length + (ln k - 1) + 1 ≤ 2600) ∧ (∀ x t, stk = x :: t → 256 ≤ x → 0 < dp)
/-- n steps at most: the answer and the state, once the row is empty or a step has failed -/
def mGo (tx sf ln : Nat → Nat) (q : Nat) : Nat → MS → Int32 × MS → Prop
  | 0, _, _ => False
  | n + 1, M, Z => if M.1 = [] then Z = (nI 0, M) else ∃ nm nu : Nat, mSafe ln q M ∧ (if (mStep tx sf ln q nm nu M).1 = nI 0 then mGo tx sf ln q n (mStep tx sf ln q nm nu M).2 Z else Z = mStep tx sf ln q nm nu M)
/-- the model's tables, beside the desk's lengths -/
def mTab (tx bg ed hs ln : Nat → Nat) (q : Nat) : Prop := q ≤ 100000 ∧ (∀ k, k < 26 → hs k = min (ln k) 1 ∧ (ln k ≠ 0 → ed k = bg k + (ln k - 1) ∧ ed k ≤ 2000) ∧ ln k ≤ 2001) ∧ ∀ j, tx j < 256
theorem mRun_row {f : Nat → Int32} : ∀ {l : List Nat} {st nm nu : Nat}, Row f l → Row f (mRun st nm nu l).2.2.2 := by
  intro l
  induction l with
  | nil => intro st nm nu h; exact h
  | cons x l ih =>
    intro st nm nu h
    unfold mRun
    split
    · exact h
    · split
      · exact ih h.2
      · split
        · exact h
        · exact h.2
theorem mRun_len : ∀ {l : List Nat} {st nm nu : Nat}, (mRun st nm nu l).2.2.2.length ≤ l.length := by
  intro l
  induction l with
  | nil => intro st nm nu; exact Nat.le_refl _
  | cons x l ih =>
    intro st nm nu
    have hc : (x :: l).length = l.length + 1 := rfl
    unfold mRun
    split
    · exact Nat.le_refl _
    · split
      · have := ih (st := (rdP st nm nu x).2.1) (nm := (rdP st nm nu x).2.2.1) (nu := (rdP st nm nu x).2.2.2); omega
      · split
        · exact Nat.le_refl _
        · show l.length ≤ _; omega
theorem mm_k : ∀ k, k < 26 → (-1 : Int32) - (-1 - nI k) = nI k := by decide +kernel
theorem mRun_nm {l : List Nat} {nm nu : Nat} : (mRun 1 nm nu l).1 = 3 → (mRun 1 nm nu l).2.1 < 26 := by
  intro h
  obtain ⟨c, t, -, h1, h2, h3⟩ := mRun_ent h
  rw [h3]
  show c - 97 < 26
  omega
theorem mRun_mem {b : Nat} : ∀ {l : List Nat} {st nm nu : Nat}, (∀ x ∈ l, x < b) → ∀ x ∈ (mRun st nm nu l).2.2.2, x < b := by
  intro l
  induction l with
  | nil => intro st nm nu h; exact h
  | cons x l ih =>
    intro st nm nu h
    unfold mRun
    split
    · exact h
    · split
      · exact ih (fun y hy => h y (List.mem_cons_of_mem _ hy))
      · split
        · exact h
        · exact fun y hy => h y (List.mem_cons_of_mem _ hy)
theorem seg_lt {f : Nat → Nat} (h : ∀ j, f j < 256) : ∀ (k a : Nat), ∀ x ∈ seg f a k, x < 256 := by
  intro k
  induction k with
  | zero => intro a x hx; cases hx
  | succ k ih =>
    intro a x hx
    rcases List.mem_cons.mp hx with rfl | hx
    · exact h _
    · exact ih _ x hx

/-! THE MODEL'S declare -/
abbrev DY : Type := Nat × Int32 × Nat × Nat × Nat × (Nat → Nat)
def mDl : Nat → List Nat → Nat → Nat → (Nat → Nat) → DY → Prop
  | 0, _, _, _, _, _ => False
  | _ + 1, [], nx, at', tx, Y => Y = (0, -1, 0, nx, at', tx)
  | N + 1, c :: t, nx, at', tx, Y => ∃ nm nu : Nat,
    if c = 38 then
      if (mRun 1 nm nu t).1 = 3 then mDl N (mRun 1 nm nu t).2.2.2 (nx + 1 + (t.length - (mRun 1 nm nu t).2.2.2.length)) (at' + 1 + 1 + 1) (drX 0 (at' + 1 + 1) 59 (drX 0 (at' + 1) (97 + (mRun 1 nm nu t).2.1) (drX 0 at' 38 tx))) Y
      else if (mRun 1 nm nu t).1 = 2 then mDl N (mRun 1 nm nu t).2.2.2 (nx + 1 + (t.length - (mRun 1 nm nu t).2.2.2.length)) (at' + 1) (drX 0 at' (mRun 1 nm nu t).2.2.1 tx) Y
      else Y = (if (mRun 1 nm nu t).1 = 4 then 8 else 2, if (mRun 1 nm nu t).1 = 4 then nI nx else nI (nx + 1 + (t.length - (mRun 1 nm nu t).2.2.2.length)), (mRun 1 nm nu t).2.2.2.length, nx + 1 + (t.length - (mRun 1 nm nu t).2.2.2.length), at', tx)
    else mDl N t (nx + 1) (at' + 1) (drX 0 at' c tx) Y
theorem drX_hi {at' c : Nat} {tx : Nat → Nat} (h : 2000 ≤ at') : updN tx 1999 (tx 1999) = drX 0 at' c tx := by
  unfold drX
  rw [if_neg (by omega), updN_self]
theorem drX_lo {at' c : Nat} {tx : Nat → Nat} (h : at' < 2000) : updN tx at' c = drX 0 at' c tx := by
  unfold drX
  rw [if_pos (by omega), Nat.zero_add]
theorem mRun_2len {l : List Nat} {nm nu : Nat} : (mRun 1 nm nu l).1 = 3 → (mRun 1 nm nu l).2.2.2.length + 2 = l.length := by
  intro h
  obtain ⟨c, t, hl, h1, h2, h3⟩ := mRun_ent h
  rw [h3, hl]
  rfl
