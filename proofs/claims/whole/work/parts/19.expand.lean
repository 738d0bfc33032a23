set_option maxHeartbeats 4000000 in
set_option maxRecDepth 100000 in
theorem c_Model_expandBad (l : Launch) (D : va_G) (cI cZ : ClassId) (mA ha tA bA eA zA wA pA oA : Nat) (n : Nat) (us : Nat) (en : Int32) (lf : Nat) (dp : Nat) (nx : Nat) (ou : Nat) (os : Nat) (fi : Nat) (me : Nat) (pu : Int32) (de : Nat) (fa : Nat) (pl : Int32) (na : Int32) (num : Int64) (x : Int32) (hx : x < 0 ∨ nI 100000 < x) : Mi l y_Model_expand b_Model_expand 3 (some .int) ({ frames := 0, cells := 0, slots := 0, locals := 0 } : Room) D cI cZ [.ref mA, .int x] [(mA, .inr (3, [.ref ha, .int (nI n), .ref tA, .int (nI us), .ref bA, .ref eA, .ref zA, .int en, .ref wA, .int (nI lf), .ref pA, .int (nI dp), .int (nI nx), .int (nI ou), .ref oA, .int (nI os), .int (nI fi), .int (nI me), .int pu, .int (nI de), .int (nI fa), .int pl, .int na, .long num]))] (fun (r : Int32) (u : Unit) => r = (-102) ∧ u = ()) (fun u : Unit => [(mA, .inr (3, [.ref ha, .int (nI n), .ref tA, .int (nI us), .ref bA, .ref eA, .ref zA, .int en, .ref wA, .int (nI lf), .ref pA, .int (nI dp), .int (nI nx), .int (nI ou), .ref oA, .int (nI os), .int (nI fi), .int (nI me), .int pu, .int (nI de), .int (nI fa), .int pl, .int na, .long num]))]) := by
  refine Mi.intro (by decide) (Nat.le_of_ble_eq_true rfl) ?_
  intro p e s m args below meth cd A ls R Q hR hQ C Z hl
  have hl : lv_has ls 3 [(0, .ref mA), (1, .int x)] := hl
  refine lv_iload_n C.1 C.2.1 d_Model_expand_0 rfl (lv_at hl 1 rfl) ?_
  refine lv_if_lt (tgt := 10) C.1 C.2.1 d_Model_expand_1 (by decide) (fun h1 => ?_) (fun h1 => ?_)
  · skip
    refine lv_bipush (v := (-102)) C.1 C.2.1 d_Model_expand_10 (by decide) ?_
    exact r_iret C Z () (by first | exact ⟨rfl, rfl⟩ | (clear C Z hl; simp [h1]; done) | (clear C Z hl; grind)) rfl hQ d_Model_expand_12
  · skip
    refine lv_iload_n C.1 C.2.1 d_Model_expand_4 rfl (lv_at hl 1 rfl) ?_
    refine lv_ldc (v := nI 100000) C.1 C.2.1 C.2.2.2.2.2.1 (C.2.2.2.2.2.2.1 _ c_Model_126) d_Model_expand_5 ?_
    refine lv_icmp_le (tgt := 13) C.1 C.2.1 d_Model_expand_7 (by decide) (fun h7 => ?_) (fun h7 => ?_)
    · skip
      exact (hx.elim (fun q => h1 q) (fun q => Int32.not_le.mpr q h7)).elim
    · skip
      refine lv_bipush (v := (-102)) C.1 C.2.1 d_Model_expand_10 (by decide) ?_
      exact r_iret C Z () (by first | exact ⟨rfl, rfl⟩ | (clear C Z hl; simp [h1, h7]; done) | (clear C Z hl; grind)) rfl hQ d_Model_expand_12

set_option maxHeartbeats 4000000 in
set_option maxRecDepth 100000 in
theorem c_Model_expand (l : Launch) (D : va_G) (cI cZ : ClassId) (mA ha tA bA eA zA wA pA oA : Nat) (n : Nat) (us : Nat) (en : Int32) (lf : Nat) (dp : Nat) (nx : Nat) (ou : Nat) (os : Nat) (fi : Nat) (me : Nat) (pu : Int32) (de : Nat) (fa : Nat) (pl : Int32) (na : Int32) (num : Int64) (hand : Nat → Nat) (tx : Nat → Nat) (bg : Nat → Nat) (ed : Nat → Nat) (hs : Nat → Nat) (opn : Nat → Nat) (out : Nat → Nat) (ln : Nat → Nat) (rw : Nat → Int32) (q : Nat) (N : Nat) (Y : Int32 × MS) (hT : mTab tx bg ed hs ln q) (hn : n ≤ 400) (hh : ∀ j, hand j < 256) (hgo : mGo tx bg ln q N (seg hand 0 n, 0, 0, ou, 0, -1, out, 0, 0, nI 0, 0, fun _ => 0) Y) : Mi l y_Model_expand b_Model_expand 3 (some .int) ({ frames := 4, cells := 0, slots := 0, locals := 88 } : Room) D cI cZ [.ref mA, .int (nI q)] [(mA, .inr (3, [.ref ha, .int (nI n), .ref tA, .int (nI us), .ref bA, .ref eA, .ref zA, .int en, .ref wA, .int (nI lf), .ref pA, .int (nI dp), .int (nI nx), .int (nI ou), .ref oA, .int (nI os), .int (nI fi), .int (nI me), .int pu, .int (nI de), .int (nI fa), .int pl, .int na, .long num])), (ha, .inl (cI, 400, .inl (aN hand))), (tA, .inl (cI, 2000, .inl (aN tx))), (bA, .inl (cI, 26, .inl (aN bg))), (eA, .inl (cI, 26, .inl (aN ed))), (zA, .inl (cZ, 26, .inl (aN hs))), (wA, .inl (cI, 2600, .inl rw)), (pA, .inl (cZ, 26, .inl (aN opn))), (oA, .inl (cI, 3000, .inl (aN out)))] (fun (r : Int32) (u : Nat × Nat × Nat × Nat × Nat × Int32 × (Nat → Nat) × Nat × Nat × Int32 × Nat × (Nat → Nat) × (Nat → Int32) × Int32 × Int64 × Nat) => ∃ z g, Y = (g, (z, u.2.1, u.2.2.1, u.2.2.2.1, u.2.2.2.2.1, u.2.2.2.2.2.1, u.2.2.2.2.2.2.1, u.2.2.2.2.2.2.2.1, u.2.2.2.2.2.2.2.2.1, u.2.2.2.2.2.2.2.2.2.1, u.2.2.2.2.2.2.2.2.2.2.1, u.2.2.2.2.2.2.2.2.2.2.2.1)) ∧ ((g = nI 0 ∧ u.2.2.2.2.2.2.2.2.2.2.2.2.2.2.2 = 1 ∧ r = nI u.2.2.2.2.2.2.2.1) ∨ (g ≠ nI 0 ∧ u.2.2.2.2.2.2.2.2.2.2.2.2.2.2.2 = 0 ∧ r = -1 - nI u.2.2.2.2.1))) (fun u : Nat × Nat × Nat × Nat × Nat × Int32 × (Nat → Nat) × Nat × Nat × Int32 × Nat × (Nat → Nat) × (Nat → Int32) × Int32 × Int64 × Nat => [(mA, .inr (3, [.ref ha, .int (nI 0), .ref tA, .int (nI us), .ref bA, .ref eA, .ref zA, .int en, .ref wA, .int (nI u.1), .ref pA, .int (nI u.2.1), .int (nI u.2.2.1), .int (nI u.2.2.2.1), .ref oA, .int (nI u.2.2.2.2.2.2.2.1), .int (nI u.2.2.2.2.2.2.2.2.2.2.2.2.2.2.2), .int (nI u.2.2.2.2.2.2.2.2.1), .int u.2.2.2.2.2.2.2.2.2.1, .int (nI u.2.2.2.2.2.2.2.2.2.2.1), .int (nI u.2.2.2.2.1), .int u.2.2.2.2.2.1, .int u.2.2.2.2.2.2.2.2.2.2.2.2.2.1, .long u.2.2.2.2.2.2.2.2.2.2.2.2.2.2.1])), (ha, .inl (cI, 400, .inl (aN hand))), (tA, .inl (cI, 2000, .inl (aN tx))), (bA, .inl (cI, 26, .inl (aN bg))), (eA, .inl (cI, 26, .inl (aN ed))), (zA, .inl (cZ, 26, .inl (aN hs))), (wA, .inl (cI, 2600, .inl u.2.2.2.2.2.2.2.2.2.2.2.2.1)), (pA, .inl (cZ, 26, .inl (aN u.2.2.2.2.2.2.2.2.2.2.2.1))), (oA, .inl (cI, 3000, .inl (aN u.2.2.2.2.2.2.1)))]) := by
  refine Mi.intro (by decide) (Nat.le_of_ble_eq_true rfl) ?_
  intro p e s m args below meth cd A ls R Q hR hQ C Z hl
  have hl : lv_has ls 3 [(0, .ref mA), (1, .int (nI q))] := hl
  have hq := hT.1
  refine lv_iload_n C.1 C.2.1 d_Model_expand_0 rfl (lv_at hl 1 rfl) ?_
  refine r_zlt (tgt := 10) C d_Model_expand_1 (by decide) (by omega) ?_
  refine lv_iload_n C.1 C.2.1 d_Model_expand_4 rfl (lv_at hl 1 rfl) ?_
  refine lv_ldc (v := nI 100000) C.1 C.2.1 C.2.2.2.2.2.1 (C.2.2.2.2.2.2.1 _ c_Model_126) d_Model_expand_5 ?_
  refine r_le (tgt := 13) C d_Model_expand_7 (by decide) (by omega) (by omega) (fun h7 => ?_) (fun h7 => (by omega : False).elim)
  refine lv_aload_n C.1 C.2.1 d_Model_expand_13 rfl (lv_at hl 0 rfl) ?_
  refine r_callVv (rest := []) (wr := [(tA, .inl (cI, 2000, .inl (aN tx))), (bA, .inl (cI, 26, .inl (aN bg))), (eA, .inl (cI, 26, .inl (aN ed))), (zA, .inl (cZ, 26, .inl (aN hs))), (oA, .inl (cI, 3000, .inl (aN out)))]) (wn := fun u => [(mA, .inr (3, [.ref ha, .int (nI 0), .ref tA, .int (nI us), .ref bA, .ref eA, .ref zA, .int en, .ref wA, .int (nI n), .ref pA, .int (nI 0), .int (nI 0), .int (nI ou), .ref oA, .int (nI os), .int (nI fi), .int (nI me), .int pu, .int (nI de), .int (nI 0), .int (-1), .int na, .long num])), (ha, .inl (cI, 400, .inl (aN hand))), (tA, .inl (cI, 2000, .inl (aN tx))), (bA, .inl (cI, 26, .inl (aN bg))), (eA, .inl (cI, 26, .inl (aN ed))), (zA, .inl (cZ, 26, .inl (aN hs))), (wA, .inl (cI, 2600, .inl u)), (pA, .inl (cZ, 26, .inl (aN (fun _ => 0)))), (oA, .inl (cI, 3000, .inl (aN out)))]) C Z (c_Model_begin l D cI cZ mA ha tA bA eA zA wA pA oA n us en lf dp nx ou os fi me pu de fa pl na num hand rw opn hn hh) k_Model_95 rfl ⟨by rw [hR]; decide, by rw [hR]; decide⟩ ⟨rfl, rfl⟩ [0, 1, 6, 7] [2, 3, 4, 5, 8] [5, 6, 0, 1, 2, 3, 7, 8, 4] (by decide) rfl rfl (by decide) (by decide) (by decide) (fun _ => rfl) 0 rfl rfl hl.1 rfl (Nat.le_of_ble_eq_true rfl) d_Model_expand_14 ⟨Nat.zero_le _, Nat.zero_le _⟩ (fun u1 H locs hp Z => ?_)
  have e1 : Row u1 (seg hand 0 n) := hp
  have Z : Wd D A s.heap [(mA, .inr (3, [.ref ha, .int (nI 0), .ref tA, .int (nI us), .ref bA, .ref eA, .ref zA, .int en, .ref wA, .int (nI n), .ref pA, .int (nI 0), .int (nI 0), .int (nI ou), .ref oA, .int (nI os), .int (nI fi), .int (nI me), .int pu, .int (nI de), .int (nI 0), .int (-1), .int na, .long num])), (ha, .inl (cI, 400, .inl (aN hand))), (tA, .inl (cI, 2000, .inl (aN tx))), (bA, .inl (cI, 26, .inl (aN bg))), (eA, .inl (cI, 26, .inl (aN ed))), (zA, .inl (cZ, 26, .inl (aN hs))), (wA, .inl (cI, 2600, .inl u1)), (pA, .inl (cZ, 26, .inl (aN (fun _ => 0)))), (oA, .inl (cI, 3000, .inl (aN out)))] H locs := Z
  refine lv_aload_n C.1 C.2.1 d_Model_expand_17 rfl (lv_at hl 0 rfl) ?_
  refine lv_iconst (v := nI 0) C.1 C.2.1 d_Model_expand_18 (by decide) ?_
  refine r_put (ws' := [(mA, .inr (3, [.ref ha, .int (nI 0), .ref tA, .int (nI us), .ref bA, .ref eA, .ref zA, .int en, .ref wA, .int (nI n), .ref pA, .int (nI 0), .int (nI 0), .int (nI ou), .ref oA, .int (nI os), .int (nI fi), .int (nI 0), .int pu, .int (nI de), .int (nI 0), .int (-1), .int na, .long num])), (ha, .inl (cI, 400, .inl (aN hand))), (tA, .inl (cI, 2000, .inl (aN tx))), (bA, .inl (cI, 26, .inl (aN bg))), (eA, .inl (cI, 26, .inl (aN ed))), (zA, .inl (cZ, 26, .inl (aN hs))), (wA, .inl (cI, 2600, .inl u1)), (pA, .inl (cZ, 26, .inl (aN (fun _ => 0)))), (oA, .inl (cI, 3000, .inl (aN out)))]) C Z 0 f_Model_108 rfl rfl rfl (Nat.le_of_ble_eq_true rfl) rfl d_Model_expand_19 (fun H locs Z => ?_)
  refine lv_aload_n C.1 C.2.1 d_Model_expand_22 rfl (lv_at hl 0 rfl) ?_
  refine lv_iconst (v := nI 0) C.1 C.2.1 d_Model_expand_23 (by decide) ?_
  refine r_put (ws' := [(mA, .inr (3, [.ref ha, .int (nI 0), .ref tA, .int (nI us), .ref bA, .ref eA, .ref zA, .int en, .ref wA, .int (nI n), .ref pA, .int (nI 0), .int (nI 0), .int (nI ou), .ref oA, .int (nI os), .int (nI fi), .int (nI 0), .int (nI 0), .int (nI de), .int (nI 0), .int (-1), .int na, .long num])), (ha, .inl (cI, 400, .inl (aN hand))), (tA, .inl (cI, 2000, .inl (aN tx))), (bA, .inl (cI, 26, .inl (aN bg))), (eA, .inl (cI, 26, .inl (aN ed))), (zA, .inl (cZ, 26, .inl (aN hs))), (wA, .inl (cI, 2600, .inl u1)), (pA, .inl (cZ, 26, .inl (aN (fun _ => 0)))), (oA, .inl (cI, 3000, .inl (aN out)))]) C Z 0 f_Model_111 rfl rfl rfl (Nat.le_of_ble_eq_true rfl) rfl d_Model_expand_24 (fun H locs Z => ?_)
  refine lv_aload_n C.1 C.2.1 d_Model_expand_27 rfl (lv_at hl 0 rfl) ?_
  refine lv_iconst (v := nI 0) C.1 C.2.1 d_Model_expand_28 (by decide) ?_
  refine r_put (ws' := [(mA, .inr (3, [.ref ha, .int (nI 0), .ref tA, .int (nI us), .ref bA, .ref eA, .ref zA, .int en, .ref wA, .int (nI n), .ref pA, .int (nI 0), .int (nI 0), .int (nI ou), .ref oA, .int (nI os), .int (nI fi), .int (nI 0), .int (nI 0), .int (nI 0), .int (nI 0), .int (-1), .int na, .long num])), (ha, .inl (cI, 400, .inl (aN hand))), (tA, .inl (cI, 2000, .inl (aN tx))), (bA, .inl (cI, 26, .inl (aN bg))), (eA, .inl (cI, 26, .inl (aN ed))), (zA, .inl (cZ, 26, .inl (aN hs))), (wA, .inl (cI, 2600, .inl u1)), (pA, .inl (cZ, 26, .inl (aN (fun _ => 0)))), (oA, .inl (cI, 3000, .inl (aN out)))]) C Z 0 f_Model_114 rfl rfl rfl (Nat.le_of_ble_eq_true rfl) rfl d_Model_expand_29 (fun H locs Z => ?_)
  refine lv_aload_n C.1 C.2.1 d_Model_expand_32 rfl (lv_at hl 0 rfl) ?_
  refine lv_iconst (v := nI 0) C.1 C.2.1 d_Model_expand_33 (by decide) ?_
  refine r_put (ws' := [(mA, .inr (3, [.ref ha, .int (nI 0), .ref tA, .int (nI us), .ref bA, .ref eA, .ref zA, .int en, .ref wA, .int (nI n), .ref pA, .int (nI 0), .int (nI 0), .int (nI ou), .ref oA, .int (nI 0), .int (nI fi), .int (nI 0), .int (nI 0), .int (nI 0), .int (nI 0), .int (-1), .int na, .long num])), (ha, .inl (cI, 400, .inl (aN hand))), (tA, .inl (cI, 2000, .inl (aN tx))), (bA, .inl (cI, 26, .inl (aN bg))), (eA, .inl (cI, 26, .inl (aN ed))), (zA, .inl (cZ, 26, .inl (aN hs))), (wA, .inl (cI, 2600, .inl u1)), (pA, .inl (cZ, 26, .inl (aN (fun _ => 0)))), (oA, .inl (cI, 3000, .inl (aN out)))]) C Z 0 f_Model_117 rfl rfl rfl (Nat.le_of_ble_eq_true rfl) rfl d_Model_expand_34 (fun H locs Z => ?_)
  refine lv_iconst (v := nI 0) C.1 C.2.1 d_Model_expand_37 (by decide) ?_
  refine lv_istore_n (lv' := [(2, .int (nI 0)), (0, .ref mA), (1, .int (nI q))]) C.1 C.2.1 d_Model_expand_38 rfl hl (by decide) rfl (fun ls hl => ?_)
  have fin : ∀ (stk : List Nat) (lf dp nx ou fa : Nat) (pl : Int32) (out : Nat → Nat) (os me : Nat) (pu : Int32) (de : Nat) (opn : Nat → Nat) (rw : Nat → Int32) (na : Int32) (num : Int64) (got : Int32), Y = (got, (stk, dp, nx, ou, fa, pl, out, os, me, pu, de, opn)) → ∀ (H : Heap) (locs : List Loc) (ls : Array Slot), Wd D A s.heap [(mA, .inr (3, [.ref ha, .int (nI 0), .ref tA, .int (nI us), .ref bA, .ref eA, .ref zA, .int en, .ref wA, .int (nI lf), .ref pA, .int (nI dp), .int (nI nx), .int (nI ou), .ref oA, .int (nI os), .int (nI fi), .int (nI me), .int pu, .int (nI de), .int (nI fa), .int pl, .int na, .long num])), (ha, .inl (cI, 400, .inl (aN hand))), (tA, .inl (cI, 2000, .inl (aN tx))), (bA, .inl (cI, 26, .inl (aN bg))), (eA, .inl (cI, 26, .inl (aN ed))), (zA, .inl (cZ, 26, .inl (aN hs))), (wA, .inl (cI, 2600, .inl rw)), (pA, .inl (cZ, 26, .inl (aN opn))), (oA, .inl (cI, 3000, .inl (aN out)))] H locs → lv_has ls 3 [(2, .int got), (0, .ref mA), (1, .int (nI q))] → W p l e R s m args below meth cd H locs 0 0 Q (F0 m 59 ls []) := by
    clear hl Z
    intro stk lf dp nx ou fa pl out os me pu de opn rw na num got hY H locs ls Z hl
    refine lv_aload_n C.1 C.2.1 d_Model_expand_59 rfl (lv_at hl 1 rfl) ?_
    refine lv_iload_n C.1 C.2.1 d_Model_expand_60 rfl (lv_at hl 0 rfl) ?_
    refine lv_if_ne (tgt := 68) C.1 C.2.1 d_Model_expand_61 (by decide) (fun h61 => ?_) (fun h61 => ?_)
    · skip
      refine lv_iconst (v := nI 0) C.1 C.2.1 d_Model_expand_68 (by decide) ?_
      refine r_put (ws' := [(mA, .inr (3, [.ref ha, .int (nI 0), .ref tA, .int (nI us), .ref bA, .ref eA, .ref zA, .int en, .ref wA, .int (nI lf), .ref pA, .int (nI dp), .int (nI nx), .int (nI ou), .ref oA, .int (nI os), .int (nI 0), .int (nI me), .int pu, .int (nI de), .int (nI fa), .int pl, .int na, .long num])), (ha, .inl (cI, 400, .inl (aN hand))), (tA, .inl (cI, 2000, .inl (aN tx))), (bA, .inl (cI, 26, .inl (aN bg))), (eA, .inl (cI, 26, .inl (aN ed))), (zA, .inl (cZ, 26, .inl (aN hs))), (wA, .inl (cI, 2600, .inl rw)), (pA, .inl (cZ, 26, .inl (aN opn))), (oA, .inl (cI, 3000, .inl (aN out)))]) C Z 0 f_Model_130 rfl (nar_b (by omega)) (fit_b (by omega)) (Nat.le_of_ble_eq_true rfl) rfl d_Model_expand_69 (fun H locs Z => ?_)
      refine lv_aload_n C.1 C.2.1 d_Model_expand_72 rfl (lv_at hl 1 rfl) ?_
      refine r_get C Z 0 f_Model_130 rfl rfl d_Model_expand_73 ?_
      refine r_zeq (tgt := 86) C d_Model_expand_76 (by decide) (by omega) (fun h76 => ?_) (fun h76 => (by omega : False).elim)
      refine lv_iconst (v := (-1)) C.1 C.2.1 d_Model_expand_86 (by decide) ?_
      refine lv_aload_n C.1 C.2.1 d_Model_expand_87 rfl (lv_at hl 1 rfl) ?_
      refine r_get C Z 0 f_Model_44 rfl rfl d_Model_expand_88 ?_
      refine lv_isub C.1 C.2.1 d_Model_expand_91 ?_
      exact r_iret C Z (lf, dp, nx, ou, fa, pl, out, os, me, pu, de, opn, rw, na, num, 0) (by clear C Z hl; exact ⟨stk, got, hY, by first | exact Or.inl ⟨h61.trans nI_0.symm, rfl, rfl⟩ | exact Or.inr ⟨fun h => h61 (h.trans nI_0), rfl, rfl⟩⟩) rfl hQ d_Model_expand_92
    · skip
      refine lv_iconst (v := nI 1) C.1 C.2.1 d_Model_expand_64 (by decide) ?_
      refine lv_goto (tgt := 69) C.1 C.2.1 d_Model_expand_65 (by decide) ?_
      refine r_put (ws' := [(mA, .inr (3, [.ref ha, .int (nI 0), .ref tA, .int (nI us), .ref bA, .ref eA, .ref zA, .int en, .ref wA, .int (nI lf), .ref pA, .int (nI dp), .int (nI nx), .int (nI ou), .ref oA, .int (nI os), .int (nI 1), .int (nI me), .int pu, .int (nI de), .int (nI fa), .int pl, .int na, .long num])), (ha, .inl (cI, 400, .inl (aN hand))), (tA, .inl (cI, 2000, .inl (aN tx))), (bA, .inl (cI, 26, .inl (aN bg))), (eA, .inl (cI, 26, .inl (aN ed))), (zA, .inl (cZ, 26, .inl (aN hs))), (wA, .inl (cI, 2600, .inl rw)), (pA, .inl (cZ, 26, .inl (aN opn))), (oA, .inl (cI, 3000, .inl (aN out)))]) C Z 0 f_Model_130 rfl (nar_b (by omega)) (fit_b (by omega)) (Nat.le_of_ble_eq_true rfl) rfl d_Model_expand_69 (fun H locs Z => ?_)
      refine lv_aload_n C.1 C.2.1 d_Model_expand_72 rfl (lv_at hl 1 rfl) ?_
      refine r_get C Z 0 f_Model_130 rfl rfl d_Model_expand_73 ?_
      refine r_zeq (tgt := 86) C d_Model_expand_76 (by decide) (by omega) (fun h76 => (by omega : False).elim) (fun h76 => ?_)
      refine lv_aload_n C.1 C.2.1 d_Model_expand_79 rfl (lv_at hl 1 rfl) ?_
      refine r_get C Z 0 f_Model_117 rfl rfl d_Model_expand_80 ?_
      refine lv_goto (tgt := 92) C.1 C.2.1 d_Model_expand_83 (by decide) ?_
      exact r_iret C Z (lf, dp, nx, ou, fa, pl, out, os, me, pu, de, opn, rw, na, num, 1) (by clear C Z hl; exact ⟨stk, got, hY, by first | exact Or.inl ⟨h61.trans nI_0.symm, rfl, rfl⟩ | exact Or.inr ⟨fun h => h61 (h.trans nI_0), rfl, rfl⟩⟩) rfl hQ d_Model_expand_92
  have loop : ∀ (N : Nat) (stk : List Nat) (lf dp nx ou fa : Nat) (pl : Int32) (out : Nat → Nat) (os me : Nat) (pu : Int32) (de : Nat) (opn : Nat → Nat) (rw : Nat → Int32) (na : Int32) (num : Int64), lf = stk.length → Row rw stk → mGo tx bg ln q N (stk, dp, nx, ou, fa, pl, out, os, me, pu, de, opn) Y → ∀ (H : Heap) (locs : List Loc) (ls : Array Slot), Wd D A s.heap [(mA, .inr (3, [.ref ha, .int (nI 0), .ref tA, .int (nI us), .ref bA, .ref eA, .ref zA, .int en, .ref wA, .int (nI lf), .ref pA, .int (nI dp), .int (nI nx), .int (nI ou), .ref oA, .int (nI os), .int (nI fi), .int (nI me), .int pu, .int (nI de), .int (nI fa), .int pl, .int na, .long num])), (ha, .inl (cI, 400, .inl (aN hand))), (tA, .inl (cI, 2000, .inl (aN tx))), (bA, .inl (cI, 26, .inl (aN bg))), (eA, .inl (cI, 26, .inl (aN ed))), (zA, .inl (cZ, 26, .inl (aN hs))), (wA, .inl (cI, 2600, .inl rw)), (pA, .inl (cZ, 26, .inl (aN opn))), (oA, .inl (cI, 3000, .inl (aN out)))] H locs → lv_has ls 3 [(2, .int (nI 0)), (0, .ref mA), (1, .int (nI q))] → W p l e R s m args below meth cd H locs 0 0 Q (F0 m 39 ls []) := by
    clear hl Z hgo
    intro N
    induction N with
    | zero => intro stk lf dp nx ou fa pl out os me pu de opn rw na num hlf hrow hgo; exact hgo.elim
    | succ N ih =>
      intro stk lf dp nx ou fa pl out os me pu de opn rw na num hlf hrow hgo H locs ls Z hl
      cases stk with
      | nil =>
        have hgo : Y = (nI 0, ([], dp, nx, ou, fa, pl, out, os, me, pu, de, opn)) := by rw [mGo, if_pos rfl] at hgo; exact hgo
        have hz : lf = 0 := hlf
        refine lv_aload_n C.1 C.2.1 d_Model_expand_39 rfl (lv_at hl 1 rfl) ?_
        refine r_get C Z 0 f_Model_53 rfl rfl d_Model_expand_40 ?_
        refine r_zle (tgt := 59) C d_Model_expand_43 (by decide) (by omega) (fun h43 => ?_) (fun h43 => (by omega : False).elim)
        exact fin [] lf dp nx ou fa pl out os me pu de opn rw na num _ hgo _ _ _ Z hl
      | cons y t =>
        have hcl : (y :: t).length = t.length + 1 := rfl
        rw [mGo, if_neg (by simp)] at hgo
        obtain ⟨nm, nu, hsafe, hgo⟩ := hgo
        have hlen := hsafe.1
        have hlen2 : (y :: t).length ≤ 2500 := hlen
        refine lv_aload_n C.1 C.2.1 d_Model_expand_39 rfl (lv_at hl 1 rfl) ?_
        refine r_get C Z 0 f_Model_53 rfl rfl d_Model_expand_40 ?_
        refine r_zle (tgt := 59) C d_Model_expand_43 (by decide) (by omega) (fun h43 => (by omega : False).elim) (fun h43 => ?_)
        refine lv_iload_n C.1 C.2.1 d_Model_expand_46 rfl (lv_at hl 0 rfl) ?_
        refine r_zne (tgt := 59) C d_Model_expand_47 (by decide) (by omega) (fun h47 => (by omega : False).elim) (fun h47 => ?_)
        refine lv_aload_n C.1 C.2.1 d_Model_expand_50 rfl (lv_at hl 1 rfl) ?_
        refine lv_iload_n C.1 C.2.1 d_Model_expand_51 rfl (lv_at hl 2 rfl) ?_
        refine r_callVi (rest := []) (wr := [(ha, .inl (cI, 400, .inl (aN hand)))]) (wn := fun u => [(mA, .inr (3, [.ref ha, .int (nI 0), .ref tA, .int (nI us), .ref bA, .ref eA, .ref zA, .int en, .ref wA, .int (nI u.1), .ref pA, .int (nI u.2.1), .int (nI u.2.2.1), .int (nI u.2.2.2.1), .ref oA, .int (nI u.2.2.2.2.2.2.2.1), .int (nI fi), .int (nI u.2.2.2.2.2.2.2.2.1), .int u.2.2.2.2.2.2.2.2.2.1, .int (nI u.2.2.2.2.2.2.2.2.2.2.1), .int (nI u.2.2.2.2.1), .int u.2.2.2.2.2.1, .int u.2.2.2.2.2.2.2.2.2.2.2.2.2.1, .long u.2.2.2.2.2.2.2.2.2.2.2.2.2.2])), (ha, .inl (cI, 400, .inl (aN hand))), (tA, .inl (cI, 2000, .inl (aN tx))), (bA, .inl (cI, 26, .inl (aN bg))), (eA, .inl (cI, 26, .inl (aN ed))), (zA, .inl (cZ, 26, .inl (aN hs))), (wA, .inl (cI, 2600, .inl u.2.2.2.2.2.2.2.2.2.2.2.2.1)), (pA, .inl (cZ, 26, .inl (aN u.2.2.2.2.2.2.2.2.2.2.2.1))), (oA, .inl (cI, 3000, .inl (aN u.2.2.2.2.2.2.1)))]) C Z (c_Model_step l D cI cZ mA ha tA bA eA zA wA pA oA 0 us en lf dp nx ou os fi me pu de fa pl na num tx bg ed hs opn out ln rw (y :: t) q nm nu hT hrow hlf (by simp) hsafe) k_Model_127 rfl ⟨by rw [hR]; decide, by rw [hR]; decide⟩ ⟨rfl, rfl⟩ [0, 2, 3, 4, 5, 6, 7, 8] [1] [1, 0, 2, 3, 4, 5, 6, 7, 8] (by decide) rfl rfl (by decide) (by decide) (by decide) (fun _ => rfl) 0 rfl rfl hl.1 rfl (Nat.le_of_ble_eq_true rfl) d_Model_expand_52 ⟨Nat.zero_le _, Nat.zero_le _⟩ (fun r u H locs hp Z => ?_)
        obtain ⟨lf2, dp2, nx2, ou2, fa2, pl2, out2, os2, me2, pu2, de2, opn2, rw2, na2, num2⟩ := u
        have e2 : ∃ z, (lf2, dp2, nx2, ou2, fa2, pl2, out2, os2, me2, pu2, de2, opn2, rw2, na2, num2).1 = z.length ∧ z.length ≤ 2600 ∧ Row (lf2, dp2, nx2, ou2, fa2, pl2, out2, os2, me2, pu2, de2, opn2, rw2, na2, num2).2.2.2.2.2.2.2.2.2.2.2.2.1 z ∧ mStep tx bg ln q nm nu ((y :: t), dp, nx, ou, fa, pl, out, os, me, pu, de, opn) = (r, (z, (lf2, dp2, nx2, ou2, fa2, pl2, out2, os2, me2, pu2, de2, opn2, rw2, na2, num2).2.1, (lf2, dp2, nx2, ou2, fa2, pl2, out2, os2, me2, pu2, de2, opn2, rw2, na2, num2).2.2.1, (lf2, dp2, nx2, ou2, fa2, pl2, out2, os2, me2, pu2, de2, opn2, rw2, na2, num2).2.2.2.1, (lf2, dp2, nx2, ou2, fa2, pl2, out2, os2, me2, pu2, de2, opn2, rw2, na2, num2).2.2.2.2.1, (lf2, dp2, nx2, ou2, fa2, pl2, out2, os2, me2, pu2, de2, opn2, rw2, na2, num2).2.2.2.2.2.1, (lf2, dp2, nx2, ou2, fa2, pl2, out2, os2, me2, pu2, de2, opn2, rw2, na2, num2).2.2.2.2.2.2.1, (lf2, dp2, nx2, ou2, fa2, pl2, out2, os2, me2, pu2, de2, opn2, rw2, na2, num2).2.2.2.2.2.2.2.1, (lf2, dp2, nx2, ou2, fa2, pl2, out2, os2, me2, pu2, de2, opn2, rw2, na2, num2).2.2.2.2.2.2.2.2.1, (lf2, dp2, nx2, ou2, fa2, pl2, out2, os2, me2, pu2, de2, opn2, rw2, na2, num2).2.2.2.2.2.2.2.2.2.1, (lf2, dp2, nx2, ou2, fa2, pl2, out2, os2, me2, pu2, de2, opn2, rw2, na2, num2).2.2.2.2.2.2.2.2.2.2.1, (lf2, dp2, nx2, ou2, fa2, pl2, out2, os2, me2, pu2, de2, opn2, rw2, na2, num2).2.2.2.2.2.2.2.2.2.2.2.1)) := hp
        have Z : Wd D A s.heap [(mA, .inr (3, [.ref ha, .int (nI 0), .ref tA, .int (nI us), .ref bA, .ref eA, .ref zA, .int en, .ref wA, .int (nI lf2), .ref pA, .int (nI dp2), .int (nI nx2), .int (nI ou2), .ref oA, .int (nI os2), .int (nI fi), .int (nI me2), .int pu2, .int (nI de2), .int (nI fa2), .int pl2, .int na2, .long num2])), (ha, .inl (cI, 400, .inl (aN hand))), (tA, .inl (cI, 2000, .inl (aN tx))), (bA, .inl (cI, 26, .inl (aN bg))), (eA, .inl (cI, 26, .inl (aN ed))), (zA, .inl (cZ, 26, .inl (aN hs))), (wA, .inl (cI, 2600, .inl rw2)), (pA, .inl (cZ, 26, .inl (aN opn2))), (oA, .inl (cI, 3000, .inl (aN out2)))] H locs := Z
        obtain ⟨z, hz1, hz4, hz2, hz3⟩ := e2
        dsimp only at hz1 hz2 hz3
        rw [hz3] at hgo
        by_cases hg : r = nI 0
        · subst hg
          rw [if_pos rfl] at hgo
          refine lv_istore_n (lv' := [(2, .int (nI 0)), (0, .ref mA), (1, .int (nI q))]) C.1 C.2.1 d_Model_expand_55 rfl hl (by decide) rfl (fun ls hl => ?_)
          refine lv_goto (tgt := 39) C.1 C.2.1 d_Model_expand_56 (by decide) ?_
          exact ih z lf2 dp2 nx2 ou2 fa2 pl2 out2 os2 me2 pu2 de2 opn2 rw2 na2 num2 hz1 hz2 hgo _ _ _ Z hl
        · rw [if_neg hg] at hgo
          have hg0 : ¬ r = 0 := fun h => hg (h.trans nI_0.symm)
          have hl26 : lf2 < 2 ^ 31 := by omega
          refine lv_istore_n (lv' := [(2, .int r), (0, .ref mA), (1, .int (nI q))]) C.1 C.2.1 d_Model_expand_55 rfl hl (by decide) rfl (fun ls hl => ?_)
          refine lv_goto (tgt := 39) C.1 C.2.1 d_Model_expand_56 (by decide) ?_
          refine lv_aload_n C.1 C.2.1 d_Model_expand_39 rfl (lv_at hl 1 rfl) ?_
          refine r_get C Z 0 f_Model_53 rfl rfl d_Model_expand_40 ?_
          refine r_zle (tgt := 59) C d_Model_expand_43 (by decide) (by omega) (fun h43 => ?_) (fun h43 => ?_)
          · skip
            exact fin z lf2 dp2 nx2 ou2 fa2 pl2 out2 os2 me2 pu2 de2 opn2 rw2 na2 num2 _ hgo _ _ _ Z hl
          · skip
            refine lv_iload_n C.1 C.2.1 d_Model_expand_46 rfl (lv_at hl 0 rfl) ?_
            refine lv_if_ne (tgt := 59) C.1 C.2.1 d_Model_expand_47 (by decide) (fun h47 => ?_) (fun h47 => absurd h47 hg0)
            exact fin z lf2 dp2 nx2 ou2 fa2 pl2 out2 os2 me2 pu2 de2 opn2 rw2 na2 num2 _ hgo _ _ _ Z hl
  exact loop N _ _ _ _ _ _ _ _ _ _ _ _ _ _ _ _ (by rw [seg_len]) e1 hgo _ _ _ Z hl
