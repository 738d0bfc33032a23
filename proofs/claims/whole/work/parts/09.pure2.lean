/-! THE PURE WORDS of the desk: drafting, giving, going over. -/
def fltK (w fa : Nat) : Nat := if w = 5 then 2 else if w = 4 then 8 else fa
def fltP (w at' op : Nat) (fp : Int32) : Int32 := if w = 5 then nI at' else if w = 4 then nI op else fp
def dcX (w c nm nu kept dr : Nat) (tx : Nat → Nat) : Nat → Nat := if w = 0 then drX kept dr c tx else if w = 2 then drX kept dr nu tx else if w = 3 then drX kept (dr + 1 + 1) 59 (drX kept (dr + 1) (97 + nm) (drX kept dr 38 tx)) else tx
def dcN (w dr : Nat) : Nat := if w = 0 then dr + 1 else if w = 2 then dr + 1 else if w = 3 then dr + 1 + 1 + 1 else dr
theorem dcN_le (w dr : Nat) : dcN w dr ≤ dr + 3 := by unfold dcN; (repeat' split) <;> omega
theorem fltK_le {w fa : Nat} (h : fa ≤ 15) : fltK w fa ≤ 15 := by unfold fltK; (repeat' split) <;> omega
/-- what drafting carries: fault, place, outer place, texts, how many drafted, the reader's three -/
abbrev DS : Type := Nat × Int32 × Nat × (Nat → Nat) × Nat × Nat × Nat × Nat
def dOp (st i op : Nat) : Nat := if st = 0 then i else op
def dStep (kept c i : Nat) (fa : Nat) (fp : Int32) (op : Nat) (tx : Nat → Nat) (dr st nm nu : Nat) : DS :=
  (fltK (rdP st nm nu c).1 fa, fltP (rdP st nm nu c).1 i (dOp st i op) fp, dOp st i op, dcX (rdP st nm nu c).1 c (rdP st nm nu c).2.2.1 (rdP st nm nu c).2.2.2 kept dr tx, dcN (rdP st nm nu c).1 dr, (rdP st nm nu c).2.1, (rdP st nm nu c).2.2.1, (rdP st nm nu c).2.2.2)
def dLoop (kept : Nat) (hand : Nat → Nat) : Nat → Nat → DS → DS
  | 0, _, S => S
  | k + 1, i, S => if S.1 = 0 then dLoop kept hand k (i + 1) (dStep kept (hand i) i S.1 S.2.1 S.2.2.1 S.2.2.2.1 S.2.2.2.2.1 S.2.2.2.2.2.1 S.2.2.2.2.2.2.1 S.2.2.2.2.2.2.2) else S
def dEnd (told : Nat) (S : DS) : DS := if S.1 = 0 ∧ S.2.2.2.2.2.1 ≠ 0 then (2, nI told, S.2.2) else S
def dText (kept told : Nat) (hand : Nat → Nat) (S : DS) : DS := dEnd told (dLoop kept hand told 0 S)
def gvK (ol fa : Nat) : Nat := if 3000 ≤ ol then 15 else fa
def gvP (ol op : Nat) (fp : Int32) : Int32 := if 3000 ≤ ol then nI op else fp
def gvO (ol c : Nat) (out : Nat → Nat) : Nat → Nat := if 3000 ≤ ol then out else updN out ol c
def gvN (ol : Nat) : Nat := if 3000 ≤ ol then ol else ol + 1
def fltE (lnk opk depth me ml : Nat) : Nat := if lnk = 0 then 5 else if opk ≠ 0 then 6 else if 12 < depth then 15 else if ml < me + (lnk - 1) then 14 else 0
theorem fltE_le (lnk opk depth me ml : Nat) : fltE lnk opk depth me ml ≤ 15 := by unfold fltE; (repeat' split) <;> omega
theorem gvN_le {ol : Nat} (h : ol ≤ 3000) : gvN ol ≤ 3000 := by unfold gvN; split <;> omega
/-- what going over carries: fault, place, outer place, what is given, how many, the meter, put in, deepest, open, the reader's three -/
abbrev RS : Type := Nat × Int32 × Nat × (Nat → Nat) × Nat × Nat × Int32 × Nat × (Nat → Nat) × Nat × Nat × Nat
def gRead (c x : Nat) : RS → RS := fun (fa, fp, op, out, ol, me, pu, de, opn, st, nm, nu) =>
  (fltK (rdP st nm nu c).1 fa, fltP (rdP st nm nu c).1 x op fp, op, out, ol, me, pu, de, opn, (rdP st nm nu c).2.1, (rdP st nm nu c).2.2.1, (rdP st nm nu c).2.2.2)
def gGive (c : Nat) : RS → RS := fun (fa, fp, op, out, ol, me, pu, de, opn, st, nm, nu) =>
  (gvK ol fa, gvP ol op fp, op, gvO ol c out, gvN ol, me, pu, de, opn, st, nm, nu)
def gRd (c : Nat) : RS → Nat × Nat × Nat × Nat := fun (_, _, _, _, _, _, _, _, _, st, nm, nu) => rdP st nm nu c
def gChar (goI : Nat → RS → RS) (c x : Nat) (S : RS) : RS :=
  if (gRd c S).1 = 0 then gGive c (gRead c x S) else if (gRd c S).1 = 2 then gGive (gRd c S).2.2.2 (gRead c x S) else if (gRd c S).1 = 3 then goI (gRd c S).2.2.1 (gRead c x S) else gRead c x S
def gOp (x i : Nat) : RS → RS := fun (fa, fp, op, out, ol, me, pu, de, opn, st, nm, nu) =>
  (fa, fp, if x = 0 then dOp st i op else op, out, ol, me, pu, de, opn, st, nm, nu)
def gAt (x i : Nat) (S : RS) : Nat := if x = 0 then i else S.2.2.1
def gLoop (goI : Nat → RS → RS) (x : Nat) (f : Nat → Nat) : Nat → Nat → RS → RS
  | 0, _, S => S
  | k + 1, i, S => if S.1 = 0 then gLoop goI x f k (i + 1) (gChar goI (f i) (gAt x i S) (gOp x i S)) else S
def gEnd (x to : Nat) : RS → RS := fun (fa, fp, op, out, ol, me, pu, de, opn, st, nm, nu) =>
  if fa = 0 ∧ st ≠ 0 then (if x = 0 then 2 else 13, if x = 0 then nI to else nI op, op, out, ol, me, pu, de, opn, st, nm, nu) else (fa, fp, op, out, ol, me, pu, de, opn, st, nm, nu)
def gOver (goI : Nat → RS → RS) (x : Nat) (f : Nat → Nat) (fr to : Nat) (S : RS) : RS := gEnd x to (gLoop goI x f (to - fr) fr S)
def gFlt (ln : Nat → Nat) (ml k x : Nat) : RS → Nat := fun (_, _, _, _, _, me, _, _, opn, _, _, _) => fltE (ln k) (opn k) x me ml
def gFail (w : Nat) : RS → RS := fun (_, _, op, out, ol, me, pu, de, opn, st, nm, nu) => (w, nI op, op, out, ol, me, pu, de, opn, st, nm, nu)
def gEnter (len k x : Nat) : RS → RS := fun (fa, fp, op, out, ol, me, pu, de, opn, st, nm, nu) => (fa, fp, op, out, ol, me + len, pu + nI 1, max de x, updN opn k 1, st, nm, nu)
def gLeave (k : Nat) : RS → RS := fun (fa, fp, op, out, ol, me, pu, de, opn, st, nm, nu) => (fa, fp, op, out, ol, me, pu, de, updN opn k 0, st, nm, nu)
/-- goInto with d levels left below it: it stands at depth 13 - d -/
def gInto (tx sf ln : Nat → Nat) (ml : Nat) : Nat → Nat → RS → RS
  | 0, k, S => gFail (gFlt ln ml k 13 S) S
  | d + 1, k, S => if gFlt ln ml k (12 - d) S = 0 then gLeave k (gOver (gInto tx sf ln ml d) (12 - d) tx (sf k) (sf k + (ln k - 1)) (gEnter (ln k - 1) k (12 - d) S)) else gFail (gFlt ln ml k (12 - d) S) S

/-! what a run keeps -/
def gOk : RS → Prop := fun (fa, _, _, _, ol, me, _, de, opn, st, nm, nu) => fa ≤ 15 ∧ ol ≤ 3000 ∧ me ≤ 100000 ∧ de ≤ 12 ∧ st ≤ 6 ∧ nm < 26 ∧ nu ≤ 256 ∧ ∀ j, opn j ≤ 1
def gEnv (tx sf ln : Nat → Nat) (ml : Nat) : Prop := (∀ j, tx j < 256) ∧ (∀ k, k < 26 → ln k ≠ 0 → sf k + (ln k - 1) ≤ 2000) ∧ (∀ k, ln k ≤ 2001) ∧ ml ≤ 100000
theorem fltE_0 {a b x me ml : Nat} (h : fltE a b x me ml = 0) : a ≠ 0 ∧ b = 0 ∧ x ≤ 12 ∧ me + (a - 1) ≤ ml := by
  unfold fltE at h
  (repeat' split at h) <;> omega
theorem fltE_13 (a b me ml : Nat) : fltE a b 13 me ml ≠ 0 := by
  unfold fltE
  (repeat' split) <;> omega
theorem gOk_read {c x : Nat} {S : RS} (h : gOk S) : gOk (gRead c x S) := by
  obtain ⟨fa, fp, op, out, ol, me, pu, de, opn, st, nm, nu⟩ := S
  obtain ⟨h1, h2, h3, h4, h5, h6, h7, h8⟩ := h
  have hr := rdP_ok (c := c) h5 h6 h7
  exact ⟨fltK_le h1, h2, h3, h4, hr.2.1, hr.2.2.1, hr.2.2.2, h8⟩
theorem gOk_give {c : Nat} {S : RS} (h : gOk S) : gOk (gGive c S) := by
  obtain ⟨fa, fp, op, out, ol, me, pu, de, opn, st, nm, nu⟩ := S
  obtain ⟨h1, h2, h3, h4, h5, h6, h7, h8⟩ := h
  exact ⟨by unfold gvK; split <;> omega, gvN_le h2, h3, h4, h5, h6, h7, h8⟩
theorem gOk_op {x i : Nat} {S : RS} (h : gOk S) : gOk (gOp x i S) := by
  obtain ⟨fa, fp, op, out, ol, me, pu, de, opn, st, nm, nu⟩ := S
  exact h
theorem gRd_nm {c : Nat} {S : RS} (h : gOk S) : (gRd c S).2.2.1 < 26 := by
  obtain ⟨fa, fp, op, out, ol, me, pu, de, opn, st, nm, nu⟩ := S
  obtain ⟨h1, h2, h3, h4, h5, h6, h7, h8⟩ := h
  exact (rdP_ok (c := c) h5 h6 h7).2.2.1
theorem gOk_char {goI : Nat → RS → RS} (hI : ∀ k S, k < 26 → gOk S → gOk (goI k S)) {c x : Nat} {S : RS} (h : gOk S) : gOk (gChar goI c x S) := by
  unfold gChar
  split
  · exact gOk_give (gOk_read h)
  · split
    · exact gOk_give (gOk_read h)
    · split
      · exact hI _ _ (gRd_nm h) (gOk_read h)
      · exact gOk_read h
theorem gOk_loop {goI : Nat → RS → RS} (hI : ∀ k S, k < 26 → gOk S → gOk (goI k S)) {x : Nat} {f : Nat → Nat} : ∀ (k i : Nat) (S : RS), gOk S → gOk (gLoop goI x f k i S) := by
  intro k
  induction k with
  | zero => intro i S h; exact h
  | succ k ih =>
    intro i S h
    unfold gLoop
    split
    · exact ih _ _ (gOk_char hI (gOk_op h))
    · exact h
theorem gOk_end {x to : Nat} {S : RS} (h : gOk S) : gOk (gEnd x to S) := by
  obtain ⟨fa, fp, op, out, ol, me, pu, de, opn, st, nm, nu⟩ := S
  obtain ⟨h1, h2, h3, h4, h5, h6, h7, h8⟩ := h
  unfold gEnd
  dsimp only
  split
  · exact ⟨by split <;> omega, h2, h3, h4, h5, h6, h7, h8⟩
  · exact ⟨h1, h2, h3, h4, h5, h6, h7, h8⟩
theorem gOk_fail {w : Nat} (hw : w ≤ 15) {S : RS} (h : gOk S) : gOk (gFail w S) := by
  obtain ⟨fa, fp, op, out, ol, me, pu, de, opn, st, nm, nu⟩ := S
  obtain ⟨h1, h2, h3, h4, h5, h6, h7, h8⟩ := h
  exact ⟨hw, h2, h3, h4, h5, h6, h7, h8⟩
theorem updN_le {f : Nat → Nat} {k x b : Nat} (h : ∀ j, f j ≤ b) (hx : x ≤ b) : ∀ j, updN f k x j ≤ b := by
  intro j
  unfold updN
  split
  · exact hx
  · exact h j
theorem gOk_leave {k : Nat} {S : RS} (h : gOk S) : gOk (gLeave k S) := by
  obtain ⟨fa, fp, op, out, ol, me, pu, de, opn, st, nm, nu⟩ := S
  obtain ⟨h1, h2, h3, h4, h5, h6, h7, h8⟩ := h
  exact ⟨h1, h2, h3, h4, h5, h6, h7, updN_le h8 (by omega)⟩
theorem gOk_enter {ln : Nat → Nat} {ml k x : Nat} (hml : ml ≤ 100000) {S : RS} (h : gOk S) (hf : gFlt ln ml k x S = 0) : gOk (gEnter (ln k - 1) k x S) := by
  obtain ⟨fa, fp, op, out, ol, me, pu, de, opn, st, nm, nu⟩ := S
  obtain ⟨h1, h2, h3, h4, h5, h6, h7, h8⟩ := h
  obtain ⟨q1, q2, q3, q4⟩ := fltE_0 hf
  exact ⟨h1, h2, by omega, by omega, h5, h6, h7, updN_le h8 (by omega)⟩
theorem gFlt_le {ln : Nat → Nat} {ml k x : Nat} {S : RS} : gFlt ln ml k x S ≤ 15 := by
  obtain ⟨fa, fp, op, out, ol, me, pu, de, opn, st, nm, nu⟩ := S
  exact fltE_le _ _ _ _ _
theorem gOk_into {tx sf ln : Nat → Nat} {ml : Nat} (hml : ml ≤ 100000) : ∀ (d k : Nat) (S : RS), k < 26 → gOk S → gOk (gInto tx sf ln ml d k S) := by
  intro d
  induction d with
  | zero => intro k S hk h; exact gOk_fail gFlt_le h
  | succ d ih =>
    intro k S hk h
    unfold gInto
    split
    · rename_i hf
      exact gOk_leave (gOk_end (gOk_loop ih _ _ _ (gOk_enter hml h hf)))
    · exact gOk_fail gFlt_le h

/-! put, declare, expand: the desk's public words -/
def byt (v : Int64) (r : Nat) : Nat := v.toBitVec.toNat / 2 ^ (8 * r) % 256
theorem byt_lt (v : Int64) (r : Nat) : byt v r < 256 := Nat.mod_lt _ (by decide)
def putL (v : Int64) : Nat → Nat → (Nat → Nat) → (Nat → Nat)
  | 0, _, h => h
  | r + 1, i, h => putL v r (i + 1) (updN h i (byt v r))
theorem r_dec1 (x : Nat) : nI x + Int32.ofInt (-1) = nI x - 1 := by
  rw [show Int32.ofInt (-1) = -1 from by decide, Int32.sub_eq_add_neg]
def declR (kept : Nat) (T : DS) : Int32 := if T.1 ≠ 0 then -1 - nI T.1 else if 2000 < kept + T.2.2.2.2.1 then -101 else nI T.2.2.2.2.1
def declS (k kept : Nat) (sf ln : Nat → Nat) (dl : Int32) (T : DS) : (Nat → Nat) × (Nat → Nat) × Nat × Int32 := if T.1 = 0 ∧ kept + T.2.2.2.2.1 ≤ 2000 then (updN sf k kept, updN ln k (T.2.2.2.2.1 + 1), kept + T.2.2.2.2.1, dl + nI 1) else (sf, ln, kept, dl)
def expR (T : RS) : Int32 := if T.1 ≠ 0 then -1 - nI T.1 else nI T.2.2.2.2.1
def expN (T : RS) : Nat := if T.1 ≠ 0 then 0 else T.2.2.2.2.1
def expG (tx sf ln hand : Nat → Nat) (ml n : Nat) (out opn : Nat → Nat) (nm nu : Nat) : RS := gOver (gInto tx sf ln ml 12) 0 hand 0 n (0, -1, 0, out, 0, 0, nI 0, 0, opn, 0, nm, nu)

theorem dStep_ok {kept c i fa : Nat} {fp : Int32} {op : Nat} {tx : Nat → Nat} {dr st nm nu : Nat} (h1 : fa ≤ 15) (h2 : st ≤ 6) (h3 : nm < 26) (h4 : nu ≤ 256) : (dStep kept c i fa fp op tx dr st nm nu).1 ≤ 15 ∧ (dStep kept c i fa fp op tx dr st nm nu).2.2.2.2.1 ≤ dr + 3 ∧ (dStep kept c i fa fp op tx dr st nm nu).2.2.2.2.2.1 ≤ 6 ∧ (dStep kept c i fa fp op tx dr st nm nu).2.2.2.2.2.2.1 < 26 ∧ (dStep kept c i fa fp op tx dr st nm nu).2.2.2.2.2.2.2 ≤ 256 := by
  have hr := rdP_ok (c := c) h2 h3 h4
  exact ⟨fltK_le h1, dcN_le _ _, hr.2.1, hr.2.2.1, hr.2.2.2⟩
theorem dLoop_ok {kept : Nat} {hand : Nat → Nat} : ∀ (k i : Nat) (S : DS), S.1 ≤ 15 → S.2.2.2.2.2.1 ≤ 6 → S.2.2.2.2.2.2.1 < 26 → S.2.2.2.2.2.2.2 ≤ 256 → (dLoop kept hand k i S).1 ≤ 15 ∧ (dLoop kept hand k i S).2.2.2.2.1 ≤ S.2.2.2.2.1 + 3 * k ∧ (dLoop kept hand k i S).2.2.2.2.2.1 ≤ 6 ∧ (dLoop kept hand k i S).2.2.2.2.2.2.1 < 26 ∧ (dLoop kept hand k i S).2.2.2.2.2.2.2 ≤ 256 := by
  intro k
  induction k with
  | zero => intro i S h1 h2 h3 h4; exact ⟨h1, by show S.2.2.2.2.1 ≤ _; omega, h2, h3, h4⟩
  | succ k ih =>
    intro i S h1 h2 h3 h4
    unfold dLoop
    split
    · have hs := dStep_ok (kept := kept) (c := hand i) (i := i) (fp := S.2.1) (op := S.2.2.1) (tx := S.2.2.2.1) (dr := S.2.2.2.2.1) h1 h2 h3 h4
      have := ih (i + 1) _ hs.1 hs.2.2.1 hs.2.2.2.1 hs.2.2.2.2
      exact ⟨this.1, by omega, this.2.2.1, this.2.2.2.1, this.2.2.2.2⟩
    · exact ⟨h1, by omega, h2, h3, h4⟩
theorem dText_ok' {kept told : Nat} {hand : Nat → Nat} {S : DS} (h1 : S.1 ≤ 15) (h2 : S.2.2.2.2.2.1 ≤ 6) (h3 : S.2.2.2.2.2.2.1 < 26) (h4 : S.2.2.2.2.2.2.2 ≤ 256) : (dText kept told hand S).1 ≤ 15 ∧ (dText kept told hand S).2.2.2.2.1 ≤ S.2.2.2.2.1 + 3 * told ∧ (dText kept told hand S).2.2.2.2.2.1 ≤ 6 ∧ (dText kept told hand S).2.2.2.2.2.2.1 < 26 ∧ (dText kept told hand S).2.2.2.2.2.2.2 ≤ 256 := by
  have h := dLoop_ok (kept := kept) (hand := hand) told 0 S h1 h2 h3 h4
  unfold dText dEnd
  split
  · exact ⟨by dsimp only; omega, h.2⟩
  · exact h
theorem dText_ok {kept told : Nat} {hand : Nat → Nat} {S : DS} (h1 : S.1 ≤ 15) (h2 : S.2.2.2.2.2.1 ≤ 6) (h3 : S.2.2.2.2.2.2.1 < 26) (h4 : S.2.2.2.2.2.2.2 ≤ 256) : (dText kept told hand S).1 ≤ 15 ∧ (dText kept told hand S).2.2.2.2.1 ≤ S.2.2.2.2.1 + 3 * told := ⟨(dText_ok' h1 h2 h3 h4).1, (dText_ok' h1 h2 h3 h4).2.1⟩
/-! the byte of a long, as the desk reads it -/
theorem byt_u (v : Int64) {r : Nat} (hr : r < 8) : ((v.toUInt64 >>> ((nI (8 * r)).toInt64.toUInt64 &&& Int64.toUInt64 63)).toInt64).toInt32 &&& nI 255 = nI (byt v r) := by
  rw [pk_and _ 8 (show (nI 255).toBitVec.toNat = 2 ^ 8 - 1 by decide)]
  have h : ((nI (8 * r)).toInt64.toUInt64 &&& Int64.toUInt64 63).toNat % 64 = 8 * r := by
    rw [nI_l (by omega), UInt64.toNat_and]
    have e : (lN (8 * r)).toUInt64.toNat = (8 * r) % 2 ^ 64 := rfl
    have e2 : (Int64.toUInt64 63).toNat = 2 ^ 6 - 1 := by decide
    rw [e, e2, Nat.and_two_pow_sub_one_eq_mod]
    omega
  have h2 : (v.toUInt64 >>> ((nI (8 * r)).toInt64.toUInt64 &&& Int64.toUInt64 63)).toNat = v.toBitVec.toNat / 2 ^ (8 * r) := by
    rw [UInt64.toNat_shiftRight, h, Nat.shiftRight_eq_div_pow]
    rfl
  congr 1
  generalize hz : (v.toUInt64 >>> ((nI (8 * r)).toInt64.toUInt64 &&& Int64.toUInt64 63)) = z at h2 ⊢
  have h3 : (z.toInt64.toInt32).toBitVec.toNat = z.toNat % 2 ^ 32 := by
    rw [Int64.toBitVec_toInt32, BitVec.signExtend_eq_setWidth_of_le _ (by decide), BitVec.toNat_setWidth]
    rfl
  rw [h3, h2]
  unfold byt
  exact Nat.mod_mod_of_dvd _ (by decide)
theorem byt_ss {w : BitVec 64} {n : Nat} (hn : n = 0 ∨ n = 8 ∨ n = 16 ∨ n = 24 ∨ n = 32 ∨ n = 40 ∨ n = 48 ∨ n = 56) : (w.sshiftRight n).toNat % 256 = w.toNat / 2 ^ n % 256 := by
  have h1 : (w.sshiftRight n).toInt = w.toInt / 2 ^ n := by rw [BitVec.toInt_sshiftRight, Int.shiftRight_eq_div_pow]; rfl
  have h2 := BitVec.toInt_eq_toNat_cond w
  have h3 := BitVec.toInt_eq_toNat_cond (w.sshiftRight n)
  have h4 := w.isLt
  have h5 := (w.sshiftRight n).isLt
  rw [h1] at h3
  generalize (w.sshiftRight n).toNat = y at h3 h5 ⊢
  generalize w.toNat = x at h2 h4 ⊢
  generalize w.toInt = t at h2 h3
  rcases hn with rfl | rfl | rfl | rfl | rfl | rfl | rfl | rfl <;> (split at h2 <;> split at h3 <;> omega)
theorem byt_sh : ∀ r, r < 8 → (((nI (8 * r)).toInt64 &&& 63).toBitVec.smod 64).toNat = 8 * r := by decide +kernel
theorem byt_s (v : Int64) {r : Nat} (hr : r < 8) : ((v >>> ((nI (8 * r)).toInt64 &&& 63)) &&& lN 255).toInt32 = nI (byt v r) := by
  have h0 : (v >>> ((nI (8 * r)).toInt64 &&& 63)).toBitVec = v.toBitVec.sshiftRight (8 * r) := by
    have e : (v >>> ((nI (8 * r)).toInt64 &&& 63)).toBitVec = v.toBitVec.sshiftRight (((nI (8 * r)).toInt64 &&& 63).toBitVec.smod 64).toNat := rfl
    rw [e, byt_sh r hr]
  have h1 : (v >>> ((nI (8 * r)).toInt64 &&& 63)) &&& lN 255 = lN (byt v r) := by
    apply Int64.toBitVec_inj.mp
    apply BitVec.eq_of_toNat_eq
    rw [Int64.toBitVec_and, BitVec.toNat_and, h0, show (lN 255).toBitVec.toNat = 2 ^ 8 - 1 by decide, Nat.and_two_pow_sub_one_eq_mod]
    show _ = (BitVec.ofNat 64 _).toNat
    rw [BitVec.toNat_ofNat]
    have h2 := byt_ss (w := v.toBitVec) (n := 8 * r) (by omega)
    have h3 := byt_lt v r
    unfold byt at h3 ⊢
    omega
  rw [h1, lN_i]
