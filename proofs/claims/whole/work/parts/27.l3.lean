/-! THE LAW'S pure words -/
theorem lw_lt {L i : Nat} (hL : L ≤ 2048) (hi : i ≤ 4096) : (Int32.ofNat L - nI 4 < nI i) ↔ L < i + 4 := by
  have h1 : (nI L - nI 4).toInt = (L : Int) - 4 := pk_sub_toInt (by omega) (by omega)
  have h2 : (nI i).toInt = (i : Int) := nI_toInt (by omega)
  have h3 : (nI L - nI 4 < nI i) ↔ (nI L - nI 4).toInt < (nI i).toInt := Int32.lt_iff_toInt_lt
  show (nI L - nI 4 < nI i) ↔ _
  rw [h3, h1, h2]
  omega
theorem le_lt {a : Nat} {x : Int32} (ha : a < 1000000) (h : nI (a + 1) ≤ x) : nI a < x := by
  have h1 := Int32.le_iff_toInt_le.mp h
  apply Int32.lt_iff_toInt_lt.mpr
  rw [nI_toInt (by omega)] at h1 ⊢
  omega
theorem name_cases (x : Int32) : (x < 0 ∨ nI 26 ≤ x) ∨ ∃ k, k < 26 ∧ nI k = x := by
  rcases pk_ix x (n := 26) (by decide) with h | h | ⟨j, h1, h2⟩
  · exact Or.inl (Or.inl h)
  · exact Or.inl (Or.inr h)
  · exact Or.inr ⟨j, h1, h2.symm⟩
theorem put_cases (x : Int32) : (x < nI 1 ∨ nI 8 < x) ∨ ∃ q, (1 ≤ q ∧ q ≤ 8) ∧ nI q = x := by
  rcases pk_ix x (n := 9) (by decide) with h | h | ⟨j, h1, h2⟩
  · refine Or.inl (Or.inl (Int32.lt_iff_toInt_lt.mpr ?_))
    have := Int32.lt_iff_toInt_lt.mp h
    have e : (nI 1).toInt = 1 := by decide
    have e0 : (0 : Int32).toInt = 0 := by decide
    omega
  · exact Or.inl (Or.inr (le_lt (by decide) h))
  · rcases Nat.eq_zero_or_pos j with h0 | h0
    · refine Or.inl (Or.inl ?_)
      rw [h2, h0]; decide
    · exact Or.inr ⟨j, ⟨h0, by omega⟩, h2.symm⟩
theorem lim_cases (x : Int32) : (x < 0 ∨ nI 100000 < x) ∨ ∃ q, q ≤ 100000 ∧ nI q = x := by
  rcases pk_ix x (n := 100001) (by decide) with h | h | ⟨j, h1, h2⟩
  · exact Or.inl (Or.inl h)
  · exact Or.inl (Or.inr (le_lt (by decide) h))
  · exact Or.inr ⟨j, by omega, h2.symm⟩
theorem ix_cases (x : Int32) {n : Nat} (hn : n < 2 ^ 31) : (x < 0 ∨ nI n ≤ x) ∨ ∃ k, k < n ∧ nI k = x := by
  rcases pk_ix x hn with h | h | ⟨j, h1, h2⟩
  · exact Or.inl (Or.inl h)
  · exact Or.inl (Or.inr h)
  · exact Or.inr ⟨j, h1, h2.symm⟩
theorem cnt_cases (x : Int32) : (x.toInt < 0 ∨ 5 < x.toInt) ∨ ∃ k, k < 6 ∧ nI k = x := by
  rcases pk_ix x (n := 6) (by decide) with h | h | ⟨j, h1, h2⟩
  · have := Int32.lt_iff_toInt_lt.mp h
    have e0 : (0 : Int32).toInt = 0 := by decide
    exact Or.inl (Or.inl (by omega))
  · have := Int32.le_iff_toInt_le.mp h
    have e : (nI 6).toInt = 6 := by decide
    exact Or.inl (Or.inr (by omega))
  · exact Or.inr ⟨j, h1, h2.symm⟩
/-- what holds between two calls -/
def LInv (n : Nat) (hand tx sf ln ed hs : Nat → Nat) (kept nm nu ol os fi : Nat) : Prop :=
  n ≤ 400 ∧ (∀ j, hand j < 256) ∧ (∀ j, tx j < 256) ∧ kept ≤ 2000 ∧ tsum ln 26 = kept ∧ (∀ k, k < 26 → ln k ≠ 0 → sf k + (ln k - 1) ≤ kept ∧ ed k = sf k + (ln k - 1)) ∧ (∀ k, ln k ≤ 2001) ∧ (∀ k, k < 26 → hs k = min (ln k) 1) ∧ nm < 26 ∧ nu ≤ 256 ∧ os ≤ 3000 ∧ ((fi = 1 ∧ ol = os) ∨ (fi = 0 ∧ ol = 0))
theorem putL_lt {v : Int64} : ∀ (r i : Nat) (h : Nat → Nat), (∀ j, h j < 256) → ∀ j, putL v r i h j < 256 := by
  intro r
  induction r with
  | zero => intro i h hh; exact hh
  | succ r ih =>
    intro i h hh
    refine ih _ _ (fun j => ?_)
    unfold updN
    split
    · exact byt_lt _ _
    · exact hh j
theorem tsum_upd {ln : Nat → Nat} {j d : Nat} (hj : ln j = 0) : ∀ k, tsum (updN ln j (d + 1)) k = tsum ln k + (if j < k then d else 0) := by
  intro k
  induction k with
  | zero => rfl
  | succ k ih =>
    show tsum (updN ln j (d + 1)) k + (updN ln j (d + 1) k - 1) = tsum ln k + (ln k - 1) + _
    rw [ih]
    by_cases h : k = j
    · subst h
      have : updN ln k (d + 1) k = d + 1 := by unfold updN; rw [if_pos rfl]
      rw [this, if_neg (by omega), if_pos (by omega)]
      omega
    · have : updN ln j (d + 1) k = ln k := by unfold updN; rw [if_neg h]
      rw [this]
      by_cases h2 : j < k
      · rw [if_pos h2, if_pos (show j < k + 1 by omega)]; omega
      · rw [if_neg h2, if_neg (show ¬ j < k + 1 by omega)]; omega
theorem rdP_2lt {st nm nu x : Nat} (hst : st ≤ 6) (h : (rdP st nm nu x).1 = 2) : (rdP st nm nu x).2.2.2 < 256 := by
  have hf : (rdFin nm nu).1 = 2 → (rdFin nm nu).2.2.2 < 256 := by
    intro h
    unfold rdFin at h ⊢
    dsimp only at h ⊢
    split at h
    · rename_i hm
      unfold mayN at hm
      split at hm
      · omega
      · cases hm
    · cases h
  have hd : ∀ a b c, (rdDig a nm nu x b c).1 ≠ 2 := by
    intro a b c
    unfold rdDig
    split <;> simp
  obtain rfl | rfl | rfl | rfl | rfl | rfl | rfl : st = 0 ∨ st = 1 ∨ st = 2 ∨ st = 3 ∨ st = 4 ∨ st = 5 ∨ st = 6 := by omega
  · rw [rdP_0] at h; split at h <;> simp at h
  · rw [rdP_1] at h; unfold rdAmp at h; (repeat' split at h) <;> simp at h
  · rw [rdP_2] at h; split at h <;> simp at h
  · rw [rdP_3] at h
    split at h
    · simp at h
    · exact absurd h (hd _ _ _)
  · rw [rdP_4] at h ⊢
    split
    · rename_i e; rw [if_pos e] at h; exact hf h
    · rename_i e; rw [if_neg e] at h; exact absurd h (hd _ _ _)
  · rw [rdP_5] at h; exact absurd h (hd _ _ _)
  · rw [rdP_6] at h ⊢
    split
    · rename_i e; rw [if_pos e] at h; exact hf h
    · rename_i e; rw [if_neg e] at h; exact absurd h (hd _ _ _)
theorem drX_lt {kept dr c : Nat} {tx : Nat → Nat} (hc : c < 256) (h : ∀ j, tx j < 256) : ∀ j, drX kept dr c tx j < 256 := by
  intro j
  unfold drX
  split
  · unfold updN
    split
    · exact hc
    · exact h j
  · exact h j
theorem dLoop_tx {kept : Nat} {hand : Nat → Nat} (hh : ∀ j, hand j < 256) : ∀ (k i : Nat) (S : DS), S.1 ≤ 15 → S.2.2.2.2.2.1 ≤ 6 → S.2.2.2.2.2.2.1 < 26 → S.2.2.2.2.2.2.2 ≤ 256 → (∀ j, S.2.2.2.1 j < 256) → ∀ j, (dLoop kept hand k i S).2.2.2.1 j < 256 := by
  intro k
  induction k with
  | zero => intro i S h0 h1 h2 h3 h4; exact h4
  | succ k ih =>
    intro i S h0 h1 h2 h3 h4
    unfold dLoop
    split
    · have hs := dStep_ok (kept := kept) (c := hand i) (i := i) (fp := S.2.1) (op := S.2.2.1) (tx := S.2.2.2.1) (dr := S.2.2.2.2.1) h0 h1 h2 h3
      have hr := rdP_ok (c := hand i) h1 h2 h3
      refine ih _ _ hs.1 hs.2.2.1 hs.2.2.2.1 hs.2.2.2.2 ?_
      show ∀ j, dcX _ _ _ _ _ _ _ j < 256
      unfold dcX
      split
      · exact drX_lt (hh i) h4
      · split
        · rename_i h2'
          exact drX_lt (rdP_2lt h1 h2') h4
        · split
          · exact drX_lt (by omega) (drX_lt (by omega) (drX_lt (by omega) h4))
          · exact h4
    · exact h4
theorem dText_tx {kept told : Nat} {hand : Nat → Nat} (hh : ∀ j, hand j < 256) {S : DS} (h0 : S.1 ≤ 15) (h1 : S.2.2.2.2.2.1 ≤ 6) (h2 : S.2.2.2.2.2.2.1 < 26) (h3 : S.2.2.2.2.2.2.2 ≤ 256) (h4 : ∀ j, S.2.2.2.1 j < 256) : ∀ j, (dText kept told hand S).2.2.2.1 j < 256 := by
  have h := dLoop_tx (kept := kept) hh told 0 S h0 h1 h2 h3 h4
  unfold dText dEnd
  split
  · exact h
  · exact h
/-- declare, desk and model, as the law calls them -/
theorem decl_law {kept n : Nat} {hand tx : Nat → Nat} {nm nu : Nat} (hh : ∀ j, hand j < 256) : ∃ N a b, mDl N (seg hand 0 n) 0 kept tx ((dText kept n hand (0, -1, 0, tx, 0, 0, nm, nu)).1, (dText kept n hand (0, -1, 0, tx, 0, 0, nm, nu)).2.1, a, b, kept + (dText kept n hand (0, -1, 0, tx, 0, 0, nm, nu)).2.2.2.2.1, (dText kept n hand (0, -1, 0, tx, 0, 0, nm, nu)).2.2.2.1) := by
  obtain ⟨N, a, b, X, h1, h2⟩ := decl_main (kept := kept) (seg hand 0 n).length (seg hand 0 n) (Nat.le_refl _) (seg_lt hh _ _) 0 0 tx 0 nm nu
  have e : dText kept n hand (0, -1, 0, tx, 0, 0, nm, nu) = X := by
    rw [h1]
    unfold dText
    rw [dLoop_seg, seg_len, Nat.zero_add]
  rw [e]
  exact ⟨N, a, b, h2⟩
theorem LInv_decl {n : Nat} {hand tx sf ln ed hs : Nat → Nat} {kept nm nu ol os fi k d : Nat} {tx' : Nat → Nat} {nm' nu' : Nat} (h : LInv n hand tx sf ln ed hs kept nm nu ol os fi) (hk : k < 26) (hln : ln k = 0) (hd : kept + d ≤ 2000) (htx : ∀ j, tx' j < 256) (hnm : nm' < 26) (hnu : nu' ≤ 256) : LInv 0 hand tx' (updN sf k kept) (updN ln k (d + 1)) (updN ed k (kept + d)) (updN hs k 1) (kept + d) nm' nu' ol os fi := by
  obtain ⟨h1, h2, h3, h4, h5, h6, h7, h8, h9, h10, h11, h12⟩ := h
  have ht := tsum_upd (d := d) hln 26
  rw [if_pos hk] at ht
  refine ⟨by omega, h2, htx, hd, by omega, fun j hj => ?_, fun j => ?_, fun j hj => ?_, hnm, hnu, h11, h12⟩
  · unfold updN
    by_cases e : j = k
    · rw [if_pos e, if_pos e, if_pos e]; intro _; omega
    · rw [if_neg e, if_neg e, if_neg e]
      intro hl
      have := h6 j hj hl
      exact ⟨by omega, this.2⟩
  · unfold updN
    split
    · omega
    · exact h7 j
  · unfold updN
    by_cases e : j = k
    · rw [if_pos e, if_pos e]; omega
    · rw [if_neg e, if_neg e]; exact h8 j hj
theorem exp_ok {tx sf ln hand : Nat → Nat} {q n : Nat} (hq : q ≤ 100000) {out opn : Nat → Nat} {nm nu : Nat} (h1 : nm < 26) (h2 : nu ≤ 256) (h3 : ∀ j, opn j ≤ 1) : gOk (expG tx sf ln hand q n out opn nm nu) :=
  gOk_end (gOk_loop (gOk_into hq 12) _ _ _ ⟨by omega, by omega, by omega, by omega, by omega, h1, h2, h3⟩)
