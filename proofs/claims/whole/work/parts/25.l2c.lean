/-! expand, desk and model: the text's putting together -/
theorem mStep_ampc {tx sf ln : Nat → Nat} {q nm nu c : Nat} {t : List Nat} {dp nx ou fa : Nat} {pl : Int32} {out : Nat → Nat} {os me : Nat} {pu : Int32} {de : Nat} {opn : Nat → Nat} (h : c = 38) : mStep tx sf ln q nm nu (c :: t, dp, nx, ou, fa, pl, out, os, me, pu, de, opn) = mRef tx sf ln q nx t.length (mRun 1 nm nu t) (t, dp, nxP dp nx, ou, fa, pl, out, os, me, pu, de, opn) := by
  show (if 256 ≤ c then _ else if c = 38 then _ else _) = _
  rw [if_neg (by omega), if_pos h]
theorem mStep_amp {tx sf ln : Nat → Nat} {q nm nu : Nat} {t : List Nat} {dp nx ou fa : Nat} {pl : Int32} {out : Nat → Nat} {os me : Nat} {pu : Int32} {de : Nat} {opn : Nat → Nat} : mStep tx sf ln q nm nu (38 :: t, dp, nx, ou, fa, pl, out, os, me, pu, de, opn) = mRef tx sf ln q nx t.length (mRun 1 nm nu t) (t, dp, nxP dp nx, ou, fa, pl, out, os, me, pu, de, opn) := mStep_ampc rfl
theorem mStep_chr {tx sf ln : Nat → Nat} {q nm nu c : Nat} {t : List Nat} {dp nx ou fa : Nat} {pl : Int32} {out : Nat → Nat} {os me : Nat} {pu : Int32} {de : Nat} {opn : Nat → Nat} (h : c < 256) (h2 : c ≠ 38) : mStep tx sf ln q nm nu (c :: t, dp, nx, ou, fa, pl, out, os, me, pu, de, opn) = mGive c nx (t, dp, nxP dp nx, ou, fa, pl, out, os, me, pu, de, opn) := by
  show (if 256 ≤ c then _ else if c = 38 then _ else _) = _
  rw [if_neg (by omega), if_neg h2]
theorem mStep_mark {tx sf ln : Nat → Nat} {q nm nu k : Nat} {t : List Nat} {dp nx ou fa : Nat} {pl : Int32} {out : Nat → Nat} {os me : Nat} {pu : Int32} {de : Nat} {opn : Nat → Nat} : mStep tx sf ln q nm nu ((256 + k) :: t, dp, nx, ou, fa, pl, out, os, me, pu, de, opn) = mPop k (t, dp, nx, ou, fa, pl, out, os, me, pu, de, opn) := by
  show (if 256 ≤ 256 + k then mPop (256 + k - 256) _ else _) = _
  rw [if_pos (by omega), show 256 + k - 256 = k by omega]
theorem safe_of {ln : Nat → Nat} {q : Nat} (hts : tsum ln 26 ≤ 2000) {stk : List Nat} {x nx ou fa : Nat} {pl : Int32} {out : Nat → Nat} {os me : Nat} {pu : Int32} {de : Nat} {opn : Nat → Nat} (h1 : stk.length ≤ 400 + x + osum opn ln 26) (h2 : ∀ y ∈ stk, y < 282) (h3 : x ≤ 12) (h4 : os ≤ 3000) (h5 : me ≤ 100000) (h6 : de ≤ 12) (h7 : ∀ j, opn j ≤ 1) (h8 : x = 0 → ∀ y ∈ stk, y < 256) : mSafe ln q (stk, x, nx, ou, fa, pl, out, os, me, pu, de, opn) := by
  have ho := osum_le (opn := opn) (ln := ln) 26
  refine ⟨by omega, h2, h3, h4, h5, h6, h7, fun k hk hf => ?_, fun y t hy hm => ?_⟩
  · obtain ⟨q1, q2, q3, q4⟩ := fltE_0 hf
    have hu := osum_upd (ln := ln) q2 26
    rw [if_pos hk] at hu
    have ho2 := osum_le (opn := updN opn k 1) (ln := ln) 26
    omega
  · rcases Nat.eq_zero_or_pos x with h0 | h0
    · have := h8 h0 y (by rw [hy]; exact List.mem_cons_self)
      omega
    · exact h0
theorem Done_step {tx sf ln : Nat → Nat} {q x nx1 ou nm nu : Nat} {r : List Nat} {opn : Nat → Nat} {G : RS} {M M1 : MS} (hne : M.1 ≠ []) (hs : mSafe ln q M) (hm : mStep tx sf ln q nm nu M = (nI 0, M1)) (h : Done tx sf ln q x nx1 ou r opn G M1) : Done tx sf ln q x nx1 ou r opn G M := by
  obtain ⟨fa, fp, op, out, ol, me, pu, de, opn', st, nm', nu', hG, h1, h2, h3⟩ := h
  refine ⟨fa, fp, op, out, ol, me, pu, de, opn', st, nm', nu', hG, h1, h2, ?_⟩
  rcases h3 with ⟨a1, a2, a3, a4, a5, a6, ou', a7, a8⟩ | ⟨a1, n, stk, dp, nx', ou', o', a2⟩
  · refine Or.inl ⟨a1, a2, a3, a4, a5, a6, ou', a7, fun n Z hZ => ?_⟩
    obtain ⟨n', hn'⟩ := a8 n Z hZ
    exact ⟨n' + 1, go_ok hne hs hm hn'⟩
  · exact Or.inr ⟨a1, n + 1, stk, dp, nx', ou', o', go_ok hne hs hm a2⟩
theorem Done_fail {tx sf ln : Nat → Nat} {q x nx1 ou nm nu : Nat} {r : List Nat} {opn : Nat → Nat} {M : MS} {fa : Nat} {fp : Int32} {op : Nat} {out : Nat → Nat} {ol me : Nat} {pu : Int32} {de st nm' nu' : Nat} {stk : List Nat} {dp nx' ou' : Nat} {o' : Nat → Nat} (hne : M.1 ≠ []) (hs : mSafe ln q M) (hol : ol ≤ 3000) (hfa : fa ≠ 0) (hm : mStep tx sf ln q nm nu M = (-1, (stk, dp, nx', ou', fa, fp, out, ol, me, pu, de, o'))) : Done tx sf ln q x nx1 ou r opn (fa, fp, op, out, ol, me, pu, de, opn, st, nm', nu') M :=
  ⟨fa, fp, op, out, ol, me, pu, de, opn, st, nm', nu', rfl, rfl, hol, Or.inr ⟨hfa, 1, stk, dp, nx', ou', o', go_fail hne hs hm⟩⟩
/-- a reference to an entity: what the desk's goInto and the model's enter, and what follows it, come to -/
def EntOK (tx sf ln : Nat → Nat) (q d x : Nat) : Prop := ∀ (k at' op nx1 ou : Nat) (stk : List Nat) (out : Nat → Nat) (ol me : Nat) (pu : Int32) (de : Nat) (opn : Nat → Nat) (nm nu : Nat), k < 26 → (0 < x → ou = op) → (x = 0 → op = at') → ol ≤ 3000 → me ≤ 100000 → de ≤ 12 → (∀ j, opn j ≤ 1) → (∀ y ∈ stk, y < 282) → stk.length ≤ 400 + x + osum opn ln 26 →
  (∃ w, w ≠ 0 ∧ mEnter tx sf ln q k at' (stk, x, nx1, ou, 0, -1, out, ol, me, pu, de, opn) = (-1, (stk, x, nx1, ou, w, nI op, out, ol, me, pu, de, opn)) ∧ gInto tx sf ln q d k (0, -1, op, out, ol, me, pu, de, opn, 0, nm, nu) = (w, nI op, op, out, ol, me, pu, de, opn, 0, nm, nu)) ∨
  (∃ M1, mEnter tx sf ln q k at' (stk, x, nx1, ou, 0, -1, out, ol, me, pu, de, opn) = (nI 0, M1) ∧ Done tx sf ln q x nx1 op stk opn (gInto tx sf ln q d k (0, -1, op, out, ol, me, pu, de, opn, 0, nm, nu)) M1)
theorem pl_op {x ou op at' : Nat} (h1 : 0 < x → ou = op) (h2 : x = 0 → op = at') : plP x ou (nI at') = nI op := by
  unfold plP
  split
  · rename_i h; rw [h1 h]
  · rename_i h; rw [h2 (by omega)]
set_option maxHeartbeats 1000000 in
theorem X_inner {tx sf ln : Nat → Nat} {q d x : Nat} (hts : tsum ln 26 ≤ 2000) (hx : x ≤ 12) (hE : EntOK tx sf ln q d x) : ∀ (m : Nat) (l : List Nat), l.length ≤ m → (∀ y ∈ l, y < 256) → ∀ (r : List Nat), pkN r = 0 → (x = 0 → r = []) → (∀ y ∈ r, y < 282) → ∀ (i op nx ou : Nat) (out : Nat → Nat) (ol me : Nat) (pu : Int32) (de : Nat) (opn : Nat → Nat) (nm nu : Nat), (x = 0 → nx = i) → (0 < x → ou = op) → ol ≤ 3000 → me ≤ 100000 → de ≤ 12 → (∀ j, opn j ≤ 1) → (l ++ r).length ≤ 400 + x + osum opn ln 26 → Done tx sf ln q x (if x = 0 then i + l.length else nx) ou r opn (gEnd x (i + l.length) (gL (gInto tx sf ln q d) x l i (0, -1, op, out, ol, me, pu, de, opn, 0, nm, nu))) (l ++ r, x, nx, ou, 0, -1, out, ol, me, pu, de, opn) := by
  intro m
  induction m with
  | zero =>
    intro l hm hl r hr hr0 hr2 i op nx ou out ol me pu de opn nm nu hnx hou hol hme hde hop hlen
    obtain rfl : l = [] := List.length_eq_zero_iff.mp (by omega)
    refine ⟨0, -1, op, out, ol, me, pu, de, opn, 0, nm, nu, rfl, rfl, hol, Or.inl ⟨rfl, rfl, rfl, fun h => (hou h).symm, hme, hde, ou, fun _ => rfl, fun n Z hZ => ⟨n, ?_⟩⟩⟩
    have e : (if x = 0 then i + ([] : List Nat).length else nx) = nx := by split <;> first | rfl | (rename_i h; rw [hnx h]; rfl)
    rw [e] at hZ
    exact hZ
  | succ m ih =>
    intro l hm hl r hr hr0 hr2 i op nx ou out ol me pu de opn nm nu hnx hou hol hme hde hop hlen
    cases l with
    | nil =>
      refine ⟨0, -1, op, out, ol, me, pu, de, opn, 0, nm, nu, rfl, rfl, hol, Or.inl ⟨rfl, rfl, rfl, fun h => (hou h).symm, hme, hde, ou, fun _ => rfl, fun n Z hZ => ⟨n, ?_⟩⟩⟩
      have e : (if x = 0 then i + ([] : List Nat).length else nx) = nx := by split <;> first | rfl | (rename_i h; rw [hnx h]; rfl)
      rw [e] at hZ
      exact hZ
    | cons c t =>
      have hc : c < 256 := hl c List.mem_cons_self
      have hl2 : ∀ z ∈ t, z < 256 := fun z hz => hl z (List.mem_cons_of_mem _ hz)
      have hcl : (c :: t).length = t.length + 1 := rfl
      have hcl2 : (c :: t ++ r).length = t.length + r.length + 1 := by rw [List.length_append]; omega
      have hne : (c :: t ++ r, x, nx, ou, 0, (-1 : Int32), out, ol, me, pu, de, opn).1 ≠ [] := by simp
      have hmem : ∀ y ∈ c :: t ++ r, y < 282 := fun y hy => by
        rcases List.mem_append.mp hy with h | h
        · have := hl y h; omega
        · exact hr2 y h
      have hs : mSafe ln q (c :: t ++ r, x, nx, ou, 0, -1, out, ol, me, pu, de, opn) := safe_of hts hlen hmem hx hol hme hde hop (fun h0 y hy => by
        rw [hr0 h0, List.append_nil] at hy
        exact hl y hy)
      obtain ⟨op2, hop2⟩ : ∃ z, z = (if x = 0 then i else op) := ⟨_, rfl⟩
      have ho1 : 0 < x → ou = op2 := fun h => by rw [hop2, if_neg (by omega)]; exact hou h
      have ho2 : x = 0 → op2 = nx := fun h => by rw [hop2, if_pos h, hnx h]
      have hO : gOp x i (0, -1, op, out, ol, me, pu, de, opn, 0, nm, nu) = (0, -1, op2, out, ol, me, pu, de, opn, 0, nm, nu) := by
        rw [hop2]; rfl
      obtain ⟨at', hat⟩ : ∃ z, z = gAt x i (0, -1, op, out, ol, me, pu, de, opn, 0, nm, nu) := ⟨_, rfl⟩
      have hstep : gL (gInto tx sf ln q d) x (c :: t) i (0, -1, op, out, ol, me, pu, de, opn, 0, nm, nu) = gL (gInto tx sf ln q d) x t (i + 1) (gChar (gInto tx sf ln q d) c at' (0, -1, op2, out, ol, me, pu, de, opn, 0, nm, nu)) := by
        show (if (0 : Nat) = 0 then _ else _) = _
        rw [if_pos rfl, hO, hat]
      rw [hstep]
      by_cases h38 : c = 38
      · subst h38
        have hS : gChar (gInto tx sf ln q d) 38 at' (0, -1, op2, out, ol, me, pu, de, opn, 0, nm, nu) = (0, -1, op2, out, ol, me, pu, de, opn, 1, nm, nu) := rfl
        rw [hS]
        have hrun := gL_run (goI := gInto tx sf ln q d) (x := x) (fp := -1) (op := op2) (out := out) (ol := ol) (me := me) (pu := pu) (de := de) (opn := opn) t (i + 1) 1 nm nu hl2 (by decide) (by decide)
        obtain ⟨T, hT⟩ : ∃ T, T = mRun 1 nm nu t := ⟨_, rfl⟩
        have hTl : T.2.2.2.length ≤ t.length := by rw [hT]; exact mRun_len
        have hTm : ∀ y ∈ T.2.2.2, y < 256 := by rw [hT]; exact mRun_mem hl2
        have hTn : T.1 = 3 → T.2.1 < 26 := by rw [hT]; exact mRun_nm
        have hTa : mRun 1 nm nu (t ++ r) = (T.1, T.2.1, T.2.2.1, T.2.2.2 ++ r) := by rw [hT]; exact mRun_app hr t 1 nm nu hl2
        rw [← hT] at hrun
        obtain ⟨v1, hv1⟩ : ∃ v, v = nxK x (nxP x nx) (t.length - T.2.2.2.length) := ⟨_, rfl⟩
        have hvl : (t ++ r).length - (T.2.2.2 ++ r).length = t.length - T.2.2.2.length := by rw [List.length_append, List.length_append]; omega
        have hm1 : mStep tx sf ln q nm nu (38 :: t ++ r, x, nx, ou, 0, -1, out, ol, me, pu, de, opn) = mRef tx sf ln q nx (t ++ r).length (T.1, T.2.1, T.2.2.1, T.2.2.2 ++ r) (t ++ r, x, nxP x nx, ou, 0, -1, out, ol, me, pu, de, opn) := by
          rw [← hTa]
          exact mStep_amp
        have hto : mTo (T.2.2.2 ++ r) (nxK x (nxP x nx) ((t ++ r).length - (T.2.2.2 ++ r).length)) (t ++ r, x, nxP x nx, ou, 0, -1, out, ol, me, pu, de, opn) = (T.2.2.2 ++ r, x, v1, ou, 0, -1, out, ol, me, pu, de, opn) := by
          rw [hvl, ← hv1]; rfl
        have hv0 : x = 0 → v1 = i + 1 + (t.length - T.2.2.2.length) := fun h => by
          rw [hv1]; unfold nxK nxP; rw [if_pos h, if_pos h, hnx h]
        have hvx : 0 < x → v1 = nx := fun h => by
          rw [hv1]; unfold nxK nxP; rw [if_neg (by omega), if_neg (by omega)]
        have hrl : (T.2.2.2 ++ r).length ≤ 400 + x + osum opn ln 26 := by rw [List.length_append]; omega
        have hrm : ∀ y ∈ T.2.2.2 ++ r, y < 282 := fun y hy => by
          rcases List.mem_append.mp hy with h | h
          · have := hTm y h; omega
          · exact hr2 y h
        have hnxe : (if x = 0 then i + 1 + (t.length - T.2.2.2.length) + T.2.2.2.length else v1) = (if x = 0 then i + (38 :: t).length else nx) := by
          split
          · omega
          · rename_i h; exact hvx (by omega)
        have hie : i + 1 + (t.length - T.2.2.2.length) + T.2.2.2.length = i + (38 :: t).length := by omega
        rcases hrun with ⟨w, hre, st, nm', nu', hst, hX⟩ | ⟨w, st, nm', nu', hX⟩ | ⟨w, st, nm', nu', hX⟩ | ⟨w, hX⟩ | ⟨w, hX⟩
        · rw [hX]
          have hG : gEnd x (i + (38 :: t).length) (0, -1, op2, out, ol, me, pu, de, opn, st, nm', nu') = (if x = 0 then 2 else 13, if x = 0 then nI (i + (38 :: t).length) else nI op2, op2, out, ol, me, pu, de, opn, st, nm', nu') := by
            unfold gEnd; dsimp only; rw [if_pos ⟨rfl, hst⟩]
          rw [hG]
          refine Done_fail hne hs hol (by split <;> decide) (nm := nm) (nu := nu) (stk := T.2.2.2 ++ r) (dp := x) (nx' := v1) (ou' := ou) (o' := opn) ?_
          rw [hm1]
          unfold mRef
          dsimp only
          rw [if_neg (by omega), if_neg (by omega), if_neg (by omega), if_neg (by omega), hto, hvl, ← hv1]
          show (-1, (_, _, _, _, (if 0 < x then 13 else 2), plP x ou (nI v1), _, _, _, _, _, _)) = _
          have hT0 : T.2.2.2.length = 0 := by rw [hre]; rfl
          rcases Nat.eq_zero_or_pos x with h0 | h0
          · have e1 : plP x ou (nI v1) = nI (i + (38 :: t).length) := by
              unfold plP; rw [if_neg (by omega), hv0 h0]; congr 1; omega
            rw [e1, if_pos h0, if_pos h0, if_neg (by omega)]
          · have e1 : plP x ou (nI v1) = nI op2 := by unfold plP; rw [if_pos h0, ho1 h0]
            rw [e1, if_pos h0, if_neg (show ¬ x = 0 by omega), if_neg (show ¬ x = 0 by omega)]
        · rw [hX]
          have hG : gEnd x (i + (38 :: t).length) (2, nI (if x = 0 then i + 1 + (t.length - T.2.2.2.length) else op2), op2, out, ol, me, pu, de, opn, st, nm', nu') = (2, nI (if x = 0 then i + 1 + (t.length - T.2.2.2.length) else op2), op2, out, ol, me, pu, de, opn, st, nm', nu') := by
            unfold gEnd; dsimp only; rw [if_neg (by omega)]
          rw [hG]
          refine Done_fail hne hs hol (by decide) (nm := nm) (nu := nu) (stk := T.2.2.2 ++ r) (dp := x) (nx' := v1) (ou' := ou) (o' := opn) ?_
          rw [hm1]
          unfold mRef
          dsimp only
          rw [if_neg (by omega), if_neg (by omega), if_neg (by omega), if_pos w, hto, hvl, ← hv1]
          show (-1, (_, _, _, _, 2, plP x ou (nI v1), _, _, _, _, _, _)) = _
          have e1 : plP x ou (nI v1) = nI (if x = 0 then i + 1 + (t.length - T.2.2.2.length) else op2) := by
            refine pl_op (fun h => ?_) (fun h => ?_)
            · rw [if_neg (by omega), ho1 h]
            · rw [if_pos h, hv0 h]
          rw [e1]
        · rw [hX]
          have hG : gEnd x (i + (38 :: t).length) (8, nI op2, op2, out, ol, me, pu, de, opn, st, nm', nu') = (8, nI op2, op2, out, ol, me, pu, de, opn, st, nm', nu') := by
            unfold gEnd; dsimp only; rw [if_neg (by omega)]
          rw [hG]
          refine Done_fail hne hs hol (by decide) (nm := nm) (nu := nu) (stk := T.2.2.2 ++ r) (dp := x) (nx' := v1) (ou' := ou) (o' := opn) ?_
          rw [hm1]
          unfold mRef
          dsimp only
          rw [if_neg (by omega), if_neg (by omega), if_pos w, hto]
          show (-1, (_, _, _, _, 8, plP x ou (nI nx), _, _, _, _, _, _)) = _
          rw [pl_op ho1 ho2]
        · rw [hX]
          by_cases h3 : 3000 ≤ ol
          · have hG1 : gGive T.2.2.1 (0, -1, op2, out, ol, me, pu, de, opn, 0, T.2.1, T.2.2.1) = (15, nI op2, op2, out, ol, me, pu, de, opn, 0, T.2.1, T.2.2.1) := by
              unfold gGive gvK gvP gvO gvN; dsimp only; rw [if_pos h3, if_pos h3, if_pos h3, if_pos h3]
            rw [hG1, gL_stop (by show (15 : Nat) ≠ 0; decide)]
            have hG : gEnd x (i + (38 :: t).length) (15, nI op2, op2, out, ol, me, pu, de, opn, 0, T.2.1, T.2.2.1) = (15, nI op2, op2, out, ol, me, pu, de, opn, 0, T.2.1, T.2.2.1) := by
              unfold gEnd; dsimp only; rw [if_neg (by omega)]
            rw [hG]
            refine Done_fail hne hs hol (by decide) (nm := nm) (nu := nu) (stk := T.2.2.2 ++ r) (dp := x) (nx' := v1) (ou' := ou) (o' := opn) ?_
            rw [hm1]
            unfold mRef
            dsimp only
            rw [if_neg (by omega), if_pos w, hto]
            unfold mGive
            dsimp only
            rw [if_pos h3, pl_op ho1 ho2]
          · have hG1 : gGive T.2.2.1 (0, -1, op2, out, ol, me, pu, de, opn, 0, T.2.1, T.2.2.1) = (0, -1, op2, updN out ol T.2.2.1, ol + 1, me, pu, de, opn, 0, T.2.1, T.2.2.1) := by
              unfold gGive gvK gvP gvO gvN; dsimp only; rw [if_neg h3, if_neg h3, if_neg h3, if_neg h3]
            rw [hG1]
            have h := ih T.2.2.2 (by omega) hTm r hr hr0 hr2 (i + 1 + (t.length - T.2.2.2.length)) op2 v1 ou (updN out ol T.2.2.1) (ol + 1) me pu de opn T.2.1 T.2.2.1 hv0 ho1 (by omega) hme hde hop hrl
            rw [hnxe, hie] at h
            refine Done_step hne hs (nm := nm) (nu := nu) ?_ h
            rw [hm1]
            unfold mRef
            dsimp only
            rw [if_neg (by omega), if_pos w, hto]
            unfold mGive
            dsimp only
            rw [if_neg h3]
        · rw [hX]
          have hent := hE T.2.1 nx op2 v1 ou (T.2.2.2 ++ r) out ol me pu de opn T.2.1 T.2.2.1 (hTn w) ho1 ho2 hol hme hde hop hrm hrl
          have hm2 : mStep tx sf ln q nm nu (38 :: t ++ r, x, nx, ou, 0, -1, out, ol, me, pu, de, opn) = mEnter tx sf ln q T.2.1 nx (T.2.2.2 ++ r, x, v1, ou, 0, -1, out, ol, me, pu, de, opn) := by
            rw [hm1]
            unfold mRef
            dsimp only
            rw [if_pos w, hto]
          rcases hent with ⟨w2, hw2, hen, hgi⟩ | ⟨M1, hen, hdone⟩
          · rw [hgi, gL_stop (by exact hw2)]
            have hG : gEnd x (i + (38 :: t).length) (w2, nI op2, op2, out, ol, me, pu, de, opn, 0, T.2.1, T.2.2.1) = (w2, nI op2, op2, out, ol, me, pu, de, opn, 0, T.2.1, T.2.2.1) := by
              unfold gEnd; dsimp only; rw [if_neg (by omega)]
            rw [hG]
            exact Done_fail hne hs hol hw2 (nm := nm) (nu := nu) (hm2.trans hen)
          · obtain ⟨fa, fp, op3, out3, ol3, me3, pu3, de3, opn3, st3, nm3, nu3, hG3, ho3, hol3, h3⟩ := hdone
            rw [hG3]
            subst ho3
            rcases h3 with ⟨rfl, rfl, rfl, a4, a5, a6, ou', a7, a8⟩ | ⟨a1, n, stk, dp, nx', ou', o', a2⟩
            · have h := ih T.2.2.2 (by omega) hTm r hr hr0 hr2 (i + 1 + (t.length - T.2.2.2.length)) op3 v1 ou' out3 ol3 me3 pu3 de3 opn3 nm3 nu3 hv0 (fun h => by rw [a7 h, a4 h]) hol3 a5 a6 hop hrl
              rw [hnxe, hie] at h
              obtain ⟨fa, fp, op4, out4, ol4, me4, pu4, de4, opn4, st4, nm4, nu4, hG4, ho4, hol4, h4⟩ := h
              refine ⟨fa, fp, op4, out4, ol4, me4, pu4, de4, opn4, st4, nm4, nu4, hG4, ho4, hol4, ?_⟩
              rcases h4 with ⟨b1, b2, b3, b4, b5, b6, ou2, b7, b8⟩ | ⟨b1, n, stk, dp, nx', ou2, o', b2⟩
              · refine Or.inl ⟨b1, b2, b3, fun h => by rw [b4 h, a7 h, ho1 h], b5, b6, ou2, fun h => by rw [b7 h, a7 h, ho1 h], fun n Z hZ => ?_⟩
                obtain ⟨n1, hn1⟩ := b8 n Z hZ
                obtain ⟨n2, hn2⟩ := a8 n1 Z hn1
                exact ⟨n2 + 1, go_ok hne hs (hm2.trans hen) hn2⟩
              · obtain ⟨n2, hn2⟩ := a8 n _ b2
                exact Or.inr ⟨b1, n2 + 1, stk, dp, nx', ou2, o', go_ok hne hs (hm2.trans hen) hn2⟩
            · rw [gL_stop (by exact a1)]
              have hG : gEnd x (i + (38 :: t).length) (fa, fp, op3, out3, ol3, me3, pu3, de3, opn3, st3, nm3, nu3) = (fa, fp, op3, out3, ol3, me3, pu3, de3, opn3, st3, nm3, nu3) := by
                unfold gEnd; dsimp only; rw [if_neg (by omega)]
              rw [hG]
              exact ⟨fa, fp, op3, out3, ol3, me3, pu3, de3, opn3, st3, nm3, nu3, rfl, rfl, hol3, Or.inr ⟨a1, n + 1, stk, dp, nx', ou', o', go_ok hne hs (hm2.trans hen) a2⟩⟩
      · have hrd : rdP 0 nm nu c = (0, 0, nm, nu) := by rw [rdP_0, if_neg h38]
        have hS : gChar (gInto tx sf ln q d) c at' (0, -1, op2, out, ol, me, pu, de, opn, 0, nm, nu) = gGive c (0, -1, op2, out, ol, me, pu, de, opn, 0, nm, nu) := by
          have h1 : gRd c (0, -1, op2, out, ol, me, pu, de, opn, 0, nm, nu) = (0, 0, nm, nu) := hrd
          have h2 : gRead c at' (0, -1, op2, out, ol, me, pu, de, opn, 0, nm, nu) = (0, -1, op2, out, ol, me, pu, de, opn, 0, nm, nu) := by
            show (fltK (rdP 0 nm nu c).1 0, fltP (rdP 0 nm nu c).1 at' op2 (-1), _, _, _, _, _, _, _, _, _, _) = _
            rw [hrd]; rfl
          unfold gChar
          rw [h1, h2, if_pos rfl]
        rw [hS]
        have hm1 : mStep tx sf ln q nm nu (c :: t ++ r, x, nx, ou, 0, -1, out, ol, me, pu, de, opn) = mGive c nx (t ++ r, x, nxP x nx, ou, 0, -1, out, ol, me, pu, de, opn) := mStep_chr hc h38
        by_cases h3 : 3000 ≤ ol
        · have hG1 : gGive c (0, -1, op2, out, ol, me, pu, de, opn, 0, nm, nu) = (15, nI op2, op2, out, ol, me, pu, de, opn, 0, nm, nu) := by
            unfold gGive gvK gvP gvO gvN; dsimp only; rw [if_pos h3, if_pos h3, if_pos h3, if_pos h3]
          rw [hG1, gL_stop (by show (15 : Nat) ≠ 0; decide)]
          have hG : gEnd x (i + (c :: t).length) (15, nI op2, op2, out, ol, me, pu, de, opn, 0, nm, nu) = (15, nI op2, op2, out, ol, me, pu, de, opn, 0, nm, nu) := by
            unfold gEnd; dsimp only; rw [if_neg (by omega)]
          rw [hG]
          refine Done_fail hne hs hol (by decide) (nm := nm) (nu := nu) (stk := t ++ r) (dp := x) (nx' := nxP x nx) (ou' := ou) (o' := opn) ?_
          rw [hm1]
          unfold mGive
          dsimp only
          rw [if_pos h3, pl_op ho1 ho2]
        · have hG1 : gGive c (0, -1, op2, out, ol, me, pu, de, opn, 0, nm, nu) = (0, -1, op2, updN out ol c, ol + 1, me, pu, de, opn, 0, nm, nu) := by
            unfold gGive gvK gvP gvO gvN; dsimp only; rw [if_neg h3, if_neg h3, if_neg h3, if_neg h3]
          rw [hG1]
          have hrl : (t ++ r).length ≤ 400 + x + osum opn ln 26 := by rw [List.length_append]; omega
          have h := ih t (by omega) hl2 r hr hr0 hr2 (i + 1) op2 (nxP x nx) ou (updN out ol c) (ol + 1) me pu de opn nm nu (fun h => by unfold nxP; rw [if_pos h, hnx h]) ho1 (by omega) hme hde hop hrl
          have hnxe : (if x = 0 then i + 1 + t.length else nxP x nx) = (if x = 0 then i + (c :: t).length else nx) := by
            split
            · omega
            · rename_i h; unfold nxP; rw [if_neg h]
          rw [hnxe, show i + 1 + t.length = i + (c :: t).length by omega] at h
          refine Done_step hne hs (nm := nm) (nu := nu) ?_ h
          rw [hm1]
          unfold mGive
          dsimp only
          rw [if_neg h3]
/-- no level left below: the reference is refused -/
theorem Ent_0 {tx sf ln : Nat → Nat} {q : Nat} : EntOK tx sf ln q 0 12 := by
  intro k at' op nx1 ou stk out ol me pu de opn nm nu hk ho1 ho2 hol hme hde hop hst hlen
  have h13 := fltE_13 (ln k) (opn k) me q
  refine Or.inl ⟨fltE (ln k) (opn k) 13 me q, h13, ?_, rfl⟩
  unfold mEnter
  dsimp only
  rw [if_neg h13, pl_op ho1 ho2]
theorem updN_back {f : Nat → Nat} {k : Nat} (h : f k = 0) : updN (updN f k 1) k 0 = f := by
  funext j
  unfold updN
  split
  · rename_i e; rw [e, h]
  · rfl
theorem pkN_mark {k : Nat} {t : List Nat} : pkN ((256 + k) :: t) = 0 := by
  show (if 256 + k < 256 then _ else _) = _
  rw [if_neg (by omega)]
/-- a level left: the entity's text is gone over, and left again -/
theorem Ent_succ {tx sf ln : Nat → Nat} {q d x : Nat} (hq : q ≤ 100000) (htx : ∀ j, tx j < 256) (hts : tsum ln 26 ≤ 2000) (hx : x + (d + 1) = 12) (hE : EntOK tx sf ln q d (x + 1)) : EntOK tx sf ln q (d + 1) x := by
  intro k at' op nx1 ou stk out ol me pu de opn nm nu hk ho1 ho2 hol hme hde hop hst hlen
  have hxd : 12 - d = x + 1 := by omega
  by_cases hf : fltE (ln k) (opn k) (x + 1) me q = 0
  · obtain ⟨q1, q2, q3, q4⟩ := fltE_0 hf
    have hu := osum_upd (ln := ln) q2 26
    rw [if_pos hk] at hu
    have hen : mEnter tx sf ln q k at' (stk, x, nx1, ou, 0, -1, out, ol, me, pu, de, opn) = (nI 0, (seg tx (sf k) (ln k - 1) ++ (256 + k) :: stk, x + 1, nx1, if x = 0 then at' else ou, 0, -1, out, ol, me + (ln k - 1), pu + nI 1, max de (x + 1), updN opn k 1)) := by
      unfold mEnter
      dsimp only
      rw [if_pos hf]
    refine Or.inr ⟨_, hen, ?_⟩
    have hou : (if x = 0 then at' else ou) = op := by
      split
      · rename_i h; rw [ho2 h]
      · rename_i h; exact ho1 (by omega)
    rw [hou]
    have hgi : gInto tx sf ln q (d + 1) k (0, -1, op, out, ol, me, pu, de, opn, 0, nm, nu) = gLeave k (gEnd (x + 1) (sf k + (seg tx (sf k) (ln k - 1)).length) (gL (gInto tx sf ln q d) (x + 1) (seg tx (sf k) (ln k - 1)) (sf k) (0, -1, op, out, ol, me + (ln k - 1), pu + nI 1, max de (x + 1), updN opn k 1, 0, nm, nu))) := by
      rw [gInto, hxd, if_pos (show gFlt ln q k (x + 1) (0, -1, op, out, ol, me, pu, de, opn, 0, nm, nu) = 0 from hf), gOver, gLoop_seg, show sf k + (ln k - 1) - sf k = ln k - 1 by omega, seg_len]
      rfl
    rw [hgi]
    have h := X_inner hts (by omega) hE (seg tx (sf k) (ln k - 1)).length (seg tx (sf k) (ln k - 1)) (Nat.le_refl _) (seg_lt htx _ _) ((256 + k) :: stk) pkN_mark (fun h => absurd h (by omega)) (fun y hy => by
        rcases List.mem_cons.mp hy with rfl | hy
        · omega
        · exact hst y hy) (sf k) op nx1 op out ol (me + (ln k - 1)) (pu + nI 1) (max de (x + 1)) (updN opn k 1) nm nu (fun h => absurd h (by omega)) (fun _ => rfl) hol (by omega) (by omega) (updN_le hop (by omega)) (by rw [List.length_append, seg_len, List.length_cons, hu]; omega)
    rw [if_neg (show ¬ x + 1 = 0 by omega)] at h
    obtain ⟨fa, fp, op3, out3, ol3, me3, pu3, de3, opn3, st3, nm3, nu3, hG3, ho3, hol3, h3⟩ := h
    rw [hG3]
    subst ho3
    refine ⟨fa, fp, op3, out3, ol3, me3, pu3, de3, opn, st3, nm3, nu3, ?_, rfl, hol3, ?_⟩
    · show (fa, fp, op3, out3, ol3, me3, pu3, de3, updN (updN opn k 1) k 0, st3, nm3, nu3) = _
      rw [updN_back q2]
    · rcases h3 with ⟨rfl, rfl, rfl, a4, a5, a6, ou', a7, a8⟩ | ⟨a1, n, stk', dp, nx', ou', o', a2⟩
      · refine Or.inl ⟨rfl, rfl, rfl, fun _ => a4 (by omega), a5, a6, ou', fun _ => a7 (by omega), fun n Z hZ => ?_⟩
        have hmm : mStep tx sf ln q 0 0 ((256 + k) :: stk, x + 1, nx1, ou', 0, -1, out3, ol3, me3, pu3, de3, updN opn k 1) = (nI 0, (stk, x, nx1, ou', 0, -1, out3, ol3, me3, pu3, de3, opn)) := by
          rw [mStep_mark]
          show (nI 0, (stk, x + 1 - 1, nx1, ou', 0, -1, out3, ol3, me3, pu3, de3, updN (updN opn k 1) k 0)) = _
          rw [updN_back q2, show x + 1 - 1 = x by omega]
        refine a8 (n + 1) Z (go_ok (by simp) (safe_of hts ?_ ?_ (by omega) hol3 a5 a6 (updN_le hop (by omega)) (fun h => absurd h (by omega))) hmm hZ)
        · rw [List.length_cons, hu]; omega
        · intro y hy
          rcases List.mem_cons.mp hy with rfl | hy
          · omega
          · exact hst y hy
      · exact Or.inr ⟨a1, n, stk', dp, nx', ou', o', a2⟩
  · refine Or.inl ⟨fltE (ln k) (opn k) (x + 1) me q, hf, ?_, ?_⟩
    · unfold mEnter
      dsimp only
      rw [if_neg hf, pl_op ho1 ho2]
    · rw [gInto, hxd, if_neg (show ¬ gFlt ln q k (x + 1) (0, -1, op, out, ol, me, pu, de, opn, 0, nm, nu) = 0 from hf)]
      rfl
theorem Ent_all {tx sf ln : Nat → Nat} {q : Nat} (hq : q ≤ 100000) (htx : ∀ j, tx j < 256) (hts : tsum ln 26 ≤ 2000) : ∀ (d x : Nat), x + d = 12 → EntOK tx sf ln q d x := by
  intro d
  induction d with
  | zero => intro x h; obtain rfl : x = 12 := by omega
            exact Ent_0
  | succ d ih => intro x h; exact Ent_succ hq htx hts h (ih (x + 1) (by omega))
/-- expand: the desk's and the model's come to the same -/
theorem exp_main {tx sf ln hand : Nat → Nat} {q n : Nat} (hq : q ≤ 100000) (htx : ∀ j, tx j < 256) (hh : ∀ j, hand j < 256) (hts : tsum ln 26 ≤ 2000) (hn : n ≤ 400) (ou : Nat) (out : Nat → Nat) (nm nu : Nat) : ∃ (fa : Nat) (fp : Int32) (op : Nat) (out' : Nat → Nat) (ol me : Nat) (pu : Int32) (de st nm' nu' : Nat), expG tx sf ln hand q n out (fun _ => 0) nm nu = (fa, fp, op, out', ol, me, pu, de, (fun _ => 0), st, nm', nu') ∧ ol ≤ 3000 ∧ ∃ N stk dp nx' ou' o', mGo tx sf ln q N (seg hand 0 n, 0, 0, ou, 0, -1, out, 0, 0, nI 0, 0, fun _ => 0) ((if fa = 0 then nI 0 else -1), (stk, dp, nx', ou', fa, fp, out', ol, me, pu, de, o')) := by
  have h := X_inner hts (by omega) (Ent_all (tx := tx) (sf := sf) hq htx hts 12 0 (by omega)) n (seg hand 0 n) (by rw [seg_len]; exact Nat.le_refl _) (seg_lt hh _ _) [] rfl (fun _ => rfl) (fun y hy => by cases hy) 0 0 0 ou out 0 0 (nI 0) 0 (fun _ => 0) nm nu (fun _ => rfl) (fun h => absurd h (by omega)) (by omega) (by omega) (by omega) (fun _ => by omega) (by rw [List.append_nil, seg_len]; omega)
  obtain ⟨fa, fp, op3, out3, ol3, me3, pu3, de3, opn3, st3, nm3, nu3, hG3, ho3, hol3, h3⟩ := h
  subst ho3
  refine ⟨fa, fp, op3, out3, ol3, me3, pu3, de3, st3, nm3, nu3, ?_, hol3, ?_⟩
  · rw [← hG3]
    unfold expG gOver
    rw [gLoop_seg, seg_len, Nat.sub_zero, Nat.zero_add]
  · rw [List.append_nil] at h3
    rcases h3 with ⟨rfl, rfl, rfl, a4, a5, a6, ou', a7, a8⟩ | ⟨a1, N, stk, dp, nx', ou', o', a2⟩
    · obtain ⟨N, hN⟩ := a8 1 _ (show mGo tx sf ln q 1 ([], _) _ by rw [mGo, if_pos rfl])
      exact ⟨N, _, _, _, _, _, hN⟩
    · rw [if_neg a1]
      exact ⟨N, stk, dp, nx', ou', o', a2⟩
