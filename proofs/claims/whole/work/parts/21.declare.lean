set_option maxHeartbeats 4000000 in
set_option maxRecDepth 100000 in
theorem c_Model_declareHas (l : Launch) (D : va_G) (cI cZ : ClassId) (mA ha tA bA eA zA wA pA oA : Nat) (n : Nat) (us : Nat) (en : Int32) (lf : Nat) (dp : Nat) (nx : Nat) (ou : Nat) (os : Nat) (fi : Nat) (me : Nat) (pu : Int32) (de : Nat) (fa : Nat) (pl : Int32) (na : Int32) (num : Int64) (hand : Nat → Nat) (hs : Nat → Nat) (rw : Nat → Int32) (opn : Nat → Nat) (k : Nat) (hk : k < 26) (hhs : hs k = 1) (hn : n ≤ 400) (hh : ∀ j, hand j < 256) : Mi l y_Model_declare b_Model_declare 9 (some .int) ({ frames := 1, cells := 0, slots := 0, locals := 21 } : Room) D cI cZ [.ref mA, .int (nI k)] [(mA, .inr (3, [.ref ha, .int (nI n), .ref tA, .int (nI us), .ref bA, .ref eA, .ref zA, .int en, .ref wA, .int (nI lf), .ref pA, .int (nI dp), .int (nI nx), .int (nI ou), .ref oA, .int (nI os), .int (nI fi), .int (nI me), .int pu, .int (nI de), .int (nI fa), .int pl, .int na, .long num])), (ha, .inl (cI, 400, .inl (aN hand))), (zA, .inl (cZ, 26, .inl (aN hs))), (wA, .inl (cI, 2600, .inl rw)), (pA, .inl (cZ, 26, .inl (aN opn)))] (fun (r : Int32) (u : Nat → Int32) => r = -100) (fun u : Nat → Int32 => [(mA, .inr (3, [.ref ha, .int (nI 0), .ref tA, .int (nI us), .ref bA, .ref eA, .ref zA, .int en, .ref wA, .int (nI n), .ref pA, .int (nI 0), .int (nI 0), .int (nI ou), .ref oA, .int (nI os), .int (nI fi), .int (nI me), .int pu, .int (nI de), .int (nI 0), .int (-1), .int na, .long num])), (ha, .inl (cI, 400, .inl (aN hand))), (zA, .inl (cZ, 26, .inl (aN hs))), (wA, .inl (cI, 2600, .inl u)), (pA, .inl (cZ, 26, .inl (aN (fun _ => 0))))]) := by
  refine Mi.intro (by decide) (Nat.le_of_ble_eq_true rfl) ?_
  intro p e s m args below meth cd A ls R Q hR hQ C Z hl
  have hl : lv_has ls 9 [(0, .ref mA), (1, .int (nI k))] := hl
  refine lv_iload_n C.1 C.2.1 d_Model_declare_0 rfl (lv_at hl 1 rfl) ?_
  refine r_zlt (tgt := 10) C d_Model_declare_1 (by decide) (by omega) ?_
  refine lv_iload_n C.1 C.2.1 d_Model_declare_4 rfl (lv_at hl 1 rfl) ?_
  refine lv_bipush (v := nI 25) C.1 C.2.1 d_Model_declare_5 (by decide) ?_
  refine r_le (tgt := 13) C d_Model_declare_7 (by decide) (by omega) (by omega) (fun h7 => ?_) (fun h7 => (by omega : False).elim)
  refine lv_aload_n C.1 C.2.1 d_Model_declare_13 rfl (lv_at hl 0 rfl) ?_
  refine r_callVv (rest := []) (wr := [(zA, .inl (cZ, 26, .inl (aN hs)))]) (wn := fun u => [(mA, .inr (3, [.ref ha, .int (nI 0), .ref tA, .int (nI us), .ref bA, .ref eA, .ref zA, .int en, .ref wA, .int (nI n), .ref pA, .int (nI 0), .int (nI 0), .int (nI ou), .ref oA, .int (nI os), .int (nI fi), .int (nI me), .int pu, .int (nI de), .int (nI 0), .int (-1), .int na, .long num])), (ha, .inl (cI, 400, .inl (aN hand))), (zA, .inl (cZ, 26, .inl (aN hs))), (wA, .inl (cI, 2600, .inl u)), (pA, .inl (cZ, 26, .inl (aN (fun _ => 0))))]) C Z (c_Model_begin l D cI cZ mA ha tA bA eA zA wA pA oA n us en lf dp nx ou os fi me pu de fa pl na num hand rw opn hn hh) k_Model_95 rfl ⟨by rw [hR]; decide, by rw [hR]; decide⟩ ⟨rfl, rfl⟩ [0, 1, 3, 4] [2] [1, 2, 0, 3, 4] (by decide) rfl rfl (by decide) (by decide) (by decide) (fun _ => rfl) 0 rfl rfl hl.1 rfl (Nat.le_of_ble_eq_true rfl) d_Model_declare_14 ⟨Nat.zero_le _, Nat.zero_le _⟩ (fun u1 H locs hp Z => ?_)
  have e1 : Row u1 (seg hand 0 n) := hp
  have Z : Wd D A s.heap [(mA, .inr (3, [.ref ha, .int (nI 0), .ref tA, .int (nI us), .ref bA, .ref eA, .ref zA, .int en, .ref wA, .int (nI n), .ref pA, .int (nI 0), .int (nI 0), .int (nI ou), .ref oA, .int (nI os), .int (nI fi), .int (nI me), .int pu, .int (nI de), .int (nI 0), .int (-1), .int na, .long num])), (ha, .inl (cI, 400, .inl (aN hand))), (zA, .inl (cZ, 26, .inl (aN hs))), (wA, .inl (cI, 2600, .inl u1)), (pA, .inl (cZ, 26, .inl (aN (fun _ => 0))))] H locs := Z
  refine lv_aload_n C.1 C.2.1 d_Model_declare_17 rfl (lv_at hl 0 rfl) ?_
  refine r_get C Z 0 f_Model_22 rfl rfl d_Model_declare_18 ?_
  refine lv_iload_n C.1 C.2.1 d_Model_declare_21 rfl (lv_at hl 1 rfl) ?_
  refine r_zldN C Z 2 rfl (by omega) (by decide) d_Model_declare_22 ?_
  refine r_zeq (tgt := 29) C d_Model_declare_23 (by decide) (by omega) (fun h23 => (by omega : False).elim) (fun h23 => ?_)
  refine lv_bipush (v := (-100)) C.1 C.2.1 d_Model_declare_26 (by decide) ?_
  exact r_iret C Z u1 rfl rfl hQ d_Model_declare_28

set_option maxHeartbeats 4000000 in
set_option maxRecDepth 100000 in
theorem c_Model_declare (l : Launch) (D : va_G) (cI cZ : ClassId) (mA ha tA bA eA zA wA pA oA : Nat) (n : Nat) (us : Nat) (en : Int32) (lf : Nat) (dp : Nat) (nx : Nat) (ou : Nat) (os : Nat) (fi : Nat) (me : Nat) (pu : Int32) (de : Nat) (fa : Nat) (pl : Int32) (na : Int32) (num : Int64) (hand : Nat → Nat) (tx : Nat → Nat) (bg : Nat → Nat) (ed : Nat → Nat) (hs : Nat → Nat) (opn : Nat → Nat) (rw : Nat → Int32) (k : Nat) (N : Nat) (Y : DY) (hk : k < 26) (hhs : hs k = 0) (hn : n ≤ 400) (hus : us ≤ 2000) (hh : ∀ j, hand j < 256) (hgo : mDl N (seg hand 0 n) 0 us tx Y) : Mi l y_Model_declare b_Model_declare 9 (some .int) ({ frames := 3, cells := 0, slots := 0, locals := 65 } : Room) D cI cZ [.ref mA, .int (nI k)] [(mA, .inr (3, [.ref ha, .int (nI n), .ref tA, .int (nI us), .ref bA, .ref eA, .ref zA, .int en, .ref wA, .int (nI lf), .ref pA, .int (nI dp), .int (nI nx), .int (nI ou), .ref oA, .int (nI os), .int (nI fi), .int (nI me), .int pu, .int (nI de), .int (nI fa), .int pl, .int na, .long num])), (ha, .inl (cI, 400, .inl (aN hand))), (tA, .inl (cI, 2000, .inl (aN tx))), (bA, .inl (cI, 26, .inl (aN bg))), (eA, .inl (cI, 26, .inl (aN ed))), (zA, .inl (cZ, 26, .inl (aN hs))), (wA, .inl (cI, 2600, .inl rw)), (pA, .inl (cZ, 26, .inl (aN opn)))] (fun (r : Int32) (u : Nat × Nat × Nat × Int32 × (Nat → Int32) × (Nat → Nat) × Int32 × Int64 × (Nat → Nat) × (Nat → Nat) × (Nat → Nat) × Nat × Int32) => ∃ x y z, Y = (u.2.2.1, u.2.2.2.1, x, y, z, u.2.2.2.2.2.1) ∧ ((u.2.2.1 ≠ 0 ∧ r = -1 - nI u.2.2.1 ∧ u.2.2.2.2.2.2.2.2.1 = hs ∧ u.2.2.2.2.2.2.2.2.2.1 = bg ∧ u.2.2.2.2.2.2.2.2.2.2.1 = ed ∧ u.2.2.2.2.2.2.2.2.2.2.2.1 = us ∧ u.2.2.2.2.2.2.2.2.2.2.2.2 = en) ∨ (u.2.2.1 = 0 ∧ 2000 < z ∧ r = -101 ∧ u.2.2.2.2.2.2.2.2.1 = hs ∧ u.2.2.2.2.2.2.2.2.2.1 = bg ∧ u.2.2.2.2.2.2.2.2.2.2.1 = ed ∧ u.2.2.2.2.2.2.2.2.2.2.2.1 = us ∧ u.2.2.2.2.2.2.2.2.2.2.2.2 = en) ∨ (u.2.2.1 = 0 ∧ z ≤ 2000 ∧ r = nI z - nI us ∧ u.2.2.2.2.2.2.2.2.1 = updN hs k 1 ∧ u.2.2.2.2.2.2.2.2.2.1 = updN bg k us ∧ u.2.2.2.2.2.2.2.2.2.2.1 = updN ed k z ∧ u.2.2.2.2.2.2.2.2.2.2.2.1 = z ∧ u.2.2.2.2.2.2.2.2.2.2.2.2 = en + nI 1))) (fun u : Nat × Nat × Nat × Int32 × (Nat → Int32) × (Nat → Nat) × Int32 × Int64 × (Nat → Nat) × (Nat → Nat) × (Nat → Nat) × Nat × Int32 => [(mA, .inr (3, [.ref ha, .int (nI 0), .ref tA, .int (nI u.2.2.2.2.2.2.2.2.2.2.2.1), .ref bA, .ref eA, .ref zA, .int u.2.2.2.2.2.2.2.2.2.2.2.2, .ref wA, .int (nI u.1), .ref pA, .int (nI 0), .int (nI u.2.1), .int (nI ou), .ref oA, .int (nI os), .int (nI fi), .int (nI me), .int pu, .int (nI de), .int (nI u.2.2.1), .int u.2.2.2.1, .int u.2.2.2.2.2.2.1, .long u.2.2.2.2.2.2.2.1])), (ha, .inl (cI, 400, .inl (aN hand))), (tA, .inl (cI, 2000, .inl (aN u.2.2.2.2.2.1))), (bA, .inl (cI, 26, .inl (aN u.2.2.2.2.2.2.2.2.2.1))), (eA, .inl (cI, 26, .inl (aN u.2.2.2.2.2.2.2.2.2.2.1))), (zA, .inl (cZ, 26, .inl (aN u.2.2.2.2.2.2.2.2.1))), (wA, .inl (cI, 2600, .inl u.2.2.2.2.1)), (pA, .inl (cZ, 26, .inl (aN (fun _ => 0))))]) := by
  refine Mi.intro (by decide) (Nat.le_of_ble_eq_true rfl) ?_
  intro p e s m args below meth cd A ls R Q hR hQ C Z hl
  have hl : lv_has ls 9 [(0, .ref mA), (1, .int (nI k))] := hl
  refine lv_iload_n C.1 C.2.1 d_Model_declare_0 rfl (lv_at hl 1 rfl) ?_
  refine r_zlt (tgt := 10) C d_Model_declare_1 (by decide) (by omega) ?_
  refine lv_iload_n C.1 C.2.1 d_Model_declare_4 rfl (lv_at hl 1 rfl) ?_
  refine lv_bipush (v := nI 25) C.1 C.2.1 d_Model_declare_5 (by decide) ?_
  refine r_le (tgt := 13) C d_Model_declare_7 (by decide) (by omega) (by omega) (fun h7 => ?_) (fun h7 => (by omega : False).elim)
  refine lv_aload_n C.1 C.2.1 d_Model_declare_13 rfl (lv_at hl 0 rfl) ?_
  refine r_callVv (rest := []) (wr := [(tA, .inl (cI, 2000, .inl (aN tx))), (bA, .inl (cI, 26, .inl (aN bg))), (eA, .inl (cI, 26, .inl (aN ed))), (zA, .inl (cZ, 26, .inl (aN hs)))]) (wn := fun u => [(mA, .inr (3, [.ref ha, .int (nI 0), .ref tA, .int (nI us), .ref bA, .ref eA, .ref zA, .int en, .ref wA, .int (nI n), .ref pA, .int (nI 0), .int (nI 0), .int (nI ou), .ref oA, .int (nI os), .int (nI fi), .int (nI me), .int pu, .int (nI de), .int (nI 0), .int (-1), .int na, .long num])), (ha, .inl (cI, 400, .inl (aN hand))), (tA, .inl (cI, 2000, .inl (aN tx))), (bA, .inl (cI, 26, .inl (aN bg))), (eA, .inl (cI, 26, .inl (aN ed))), (zA, .inl (cZ, 26, .inl (aN hs))), (wA, .inl (cI, 2600, .inl u)), (pA, .inl (cZ, 26, .inl (aN (fun _ => 0))))]) C Z (c_Model_begin l D cI cZ mA ha tA bA eA zA wA pA oA n us en lf dp nx ou os fi me pu de fa pl na num hand rw opn hn hh) k_Model_95 rfl ⟨by rw [hR]; decide, by rw [hR]; decide⟩ ⟨rfl, rfl⟩ [0, 1, 6, 7] [2, 3, 4, 5] [4, 5, 0, 1, 2, 3, 6, 7] (by decide) rfl rfl (by decide) (by decide) (by decide) (fun _ => rfl) 0 rfl rfl hl.1 rfl (Nat.le_of_ble_eq_true rfl) d_Model_declare_14 ⟨Nat.zero_le _, Nat.zero_le _⟩ (fun u1 H locs hp Z => ?_)
  have e1 : Row u1 (seg hand 0 n) := hp
  have Z : Wd D A s.heap [(mA, .inr (3, [.ref ha, .int (nI 0), .ref tA, .int (nI us), .ref bA, .ref eA, .ref zA, .int en, .ref wA, .int (nI n), .ref pA, .int (nI 0), .int (nI 0), .int (nI ou), .ref oA, .int (nI os), .int (nI fi), .int (nI me), .int pu, .int (nI de), .int (nI 0), .int (-1), .int na, .long num])), (ha, .inl (cI, 400, .inl (aN hand))), (tA, .inl (cI, 2000, .inl (aN tx))), (bA, .inl (cI, 26, .inl (aN bg))), (eA, .inl (cI, 26, .inl (aN ed))), (zA, .inl (cZ, 26, .inl (aN hs))), (wA, .inl (cI, 2600, .inl u1)), (pA, .inl (cZ, 26, .inl (aN (fun _ => 0))))] H locs := Z
  refine lv_aload_n C.1 C.2.1 d_Model_declare_17 rfl (lv_at hl 0 rfl) ?_
  refine r_get C Z 0 f_Model_22 rfl rfl d_Model_declare_18 ?_
  refine lv_iload_n C.1 C.2.1 d_Model_declare_21 rfl (lv_at hl 1 rfl) ?_
  refine r_zldN C Z 5 rfl (by omega) (by decide) d_Model_declare_22 ?_
  refine r_zeq (tgt := 29) C d_Model_declare_23 (by decide) (by omega) (fun h23 => ?_) (fun h23 => (by omega : False).elim)
  refine lv_aload_n C.1 C.2.1 d_Model_declare_29 rfl (lv_at hl 0 rfl) ?_
  refine r_get C Z 0 f_Model_98 rfl rfl d_Model_declare_30 ?_
  refine lv_istore_n (lv' := [(2, .int (nI us)), (0, .ref mA), (1, .int (nI k))]) C.1 C.2.1 d_Model_declare_33 rfl hl (by decide) rfl (fun ls hl => ?_)
  have loop : ∀ (N : Nat) (stk : List Nat) (lf nx at1 : Nat) (tx : Nat → Nat) (na : Int32) (num : Int64), lf = stk.length → lf ≤ 400 → (∀ x ∈ stk, x < 256) → at1 + 3 * lf ≤ 3200 → Row u1 stk → mDl N stk nx at1 tx Y → ∀ (H : Heap) (locs : List Loc) (ls : Array Slot), Wd D A s.heap [(mA, .inr (3, [.ref ha, .int (nI 0), .ref tA, .int (nI us), .ref bA, .ref eA, .ref zA, .int en, .ref wA, .int (nI lf), .ref pA, .int (nI 0), .int (nI nx), .int (nI ou), .ref oA, .int (nI os), .int (nI fi), .int (nI me), .int pu, .int (nI de), .int (nI 0), .int (-1), .int na, .long num])), (ha, .inl (cI, 400, .inl (aN hand))), (tA, .inl (cI, 2000, .inl (aN tx))), (bA, .inl (cI, 26, .inl (aN bg))), (eA, .inl (cI, 26, .inl (aN ed))), (zA, .inl (cZ, 26, .inl (aN hs))), (wA, .inl (cI, 2600, .inl u1)), (pA, .inl (cZ, 26, .inl (aN (fun _ => 0))))] H locs → lv_has ls 9 [(2, .int (nI at1)), (0, .ref mA), (1, .int (nI k))] → W p l e R s m args below meth cd H locs 0 0 Q (F0 m 34 ls []) := by
    clear hl Z hgo
    intro N
    induction N with
    | zero => intro stk lf nx at1 tx na num hlf h4 hmk hat hrow hgo; exact (by unfold mDl at hgo; exact hgo.elim)
    | succ N ih =>
      intro stk lf nx at1 tx na num hlf h4 hmk hat hrow hgo H locs ls Z hl
      cases stk with
      | nil =>
        have hgo : Y = (0, -1, 0, nx, at1, tx) := by unfold mDl at hgo; exact hgo
        have hz : lf = 0 := hlf
        refine lv_aload_n C.1 C.2.1 d_Model_declare_34 rfl (lv_at hl 1 rfl) ?_
        refine r_get C Z 0 f_Model_53 rfl rfl d_Model_declare_35 ?_
        refine r_zle (tgt := 258) C d_Model_declare_38 (by decide) (by omega) (fun h38 => ?_) (fun h38 => (by omega : False).elim)
        refine lv_iload_n C.1 C.2.1 d_Model_declare_258 rfl (lv_at hl 0 rfl) ?_
        refine lv_sipush (v := nI 2000) C.1 C.2.1 d_Model_declare_259 (by decide) ?_
        refine r_le (tgt := 268) C d_Model_declare_262 (by decide) (by omega) (by omega) (fun h262 => ?_) (fun h262 => ?_)
        · skip
          refine lv_aload_n C.1 C.2.1 d_Model_declare_268 rfl (lv_at hl 1 rfl) ?_
          refine r_get C Z 0 f_Model_22 rfl rfl d_Model_declare_269 ?_
          refine lv_iload_n C.1 C.2.1 d_Model_declare_272 rfl (lv_at hl 2 rfl) ?_
          refine lv_iconst (v := nI 1) C.1 C.2.1 d_Model_declare_273 (by decide) ?_
          refine r_zstN (ws' := [(mA, .inr (3, [.ref ha, .int (nI 0), .ref tA, .int (nI us), .ref bA, .ref eA, .ref zA, .int en, .ref wA, .int (nI lf), .ref pA, .int (nI 0), .int (nI nx), .int (nI ou), .ref oA, .int (nI os), .int (nI fi), .int (nI me), .int pu, .int (nI de), .int (nI 0), .int (-1), .int na, .long num])), (ha, .inl (cI, 400, .inl (aN hand))), (tA, .inl (cI, 2000, .inl (aN tx))), (bA, .inl (cI, 26, .inl (aN bg))), (eA, .inl (cI, 26, .inl (aN ed))), (zA, .inl (cZ, 26, .inl (aN (updN hs k 1)))), (wA, .inl (cI, 2600, .inl u1)), (pA, .inl (cZ, 26, .inl (aN (fun _ => 0))))]) C Z 5 rfl (by omega) (by decide) (by omega) rfl d_Model_declare_274 (fun H locs Z => ?_)
          refine lv_aload_n C.1 C.2.1 d_Model_declare_275 rfl (lv_at hl 1 rfl) ?_
          refine r_get C Z 0 f_Model_16 rfl rfl d_Model_declare_276 ?_
          refine lv_iload_n C.1 C.2.1 d_Model_declare_279 rfl (lv_at hl 2 rfl) ?_
          refine lv_aload_n C.1 C.2.1 d_Model_declare_280 rfl (lv_at hl 1 rfl) ?_
          refine r_get C Z 0 f_Model_98 rfl rfl d_Model_declare_281 ?_
          refine r_istN (ws' := [(mA, .inr (3, [.ref ha, .int (nI 0), .ref tA, .int (nI us), .ref bA, .ref eA, .ref zA, .int en, .ref wA, .int (nI lf), .ref pA, .int (nI 0), .int (nI nx), .int (nI ou), .ref oA, .int (nI os), .int (nI fi), .int (nI me), .int pu, .int (nI de), .int (nI 0), .int (-1), .int na, .long num])), (ha, .inl (cI, 400, .inl (aN hand))), (tA, .inl (cI, 2000, .inl (aN tx))), (bA, .inl (cI, 26, .inl (aN (updN bg k us)))), (eA, .inl (cI, 26, .inl (aN ed))), (zA, .inl (cZ, 26, .inl (aN (updN hs k 1)))), (wA, .inl (cI, 2600, .inl u1)), (pA, .inl (cZ, 26, .inl (aN (fun _ => 0))))]) C Z 3 rfl (by omega) (by decide) rfl d_Model_declare_284 (fun H locs Z => ?_)
          refine lv_aload_n C.1 C.2.1 d_Model_declare_285 rfl (lv_at hl 1 rfl) ?_
          refine r_get C Z 0 f_Model_19 rfl rfl d_Model_declare_286 ?_
          refine lv_iload_n C.1 C.2.1 d_Model_declare_289 rfl (lv_at hl 2 rfl) ?_
          refine lv_iload_n C.1 C.2.1 d_Model_declare_290 rfl (lv_at hl 0 rfl) ?_
          refine r_istN (ws' := [(mA, .inr (3, [.ref ha, .int (nI 0), .ref tA, .int (nI us), .ref bA, .ref eA, .ref zA, .int en, .ref wA, .int (nI lf), .ref pA, .int (nI 0), .int (nI nx), .int (nI ou), .ref oA, .int (nI os), .int (nI fi), .int (nI me), .int pu, .int (nI de), .int (nI 0), .int (-1), .int na, .long num])), (ha, .inl (cI, 400, .inl (aN hand))), (tA, .inl (cI, 2000, .inl (aN tx))), (bA, .inl (cI, 26, .inl (aN (updN bg k us)))), (eA, .inl (cI, 26, .inl (aN (updN ed k at1)))), (zA, .inl (cZ, 26, .inl (aN (updN hs k 1)))), (wA, .inl (cI, 2600, .inl u1)), (pA, .inl (cZ, 26, .inl (aN (fun _ => 0))))]) C Z 4 rfl (by omega) (by decide) rfl d_Model_declare_291 (fun H locs Z => ?_)
          refine lv_aload_n C.1 C.2.1 d_Model_declare_292 rfl (lv_at hl 1 rfl) ?_
          refine lv_iload_n C.1 C.2.1 d_Model_declare_293 rfl (lv_at hl 0 rfl) ?_
          refine r_put (ws' := [(mA, .inr (3, [.ref ha, .int (nI 0), .ref tA, .int (nI at1), .ref bA, .ref eA, .ref zA, .int en, .ref wA, .int (nI lf), .ref pA, .int (nI 0), .int (nI nx), .int (nI ou), .ref oA, .int (nI os), .int (nI fi), .int (nI me), .int pu, .int (nI de), .int (nI 0), .int (-1), .int na, .long num])), (ha, .inl (cI, 400, .inl (aN hand))), (tA, .inl (cI, 2000, .inl (aN tx))), (bA, .inl (cI, 26, .inl (aN (updN bg k us)))), (eA, .inl (cI, 26, .inl (aN (updN ed k at1)))), (zA, .inl (cZ, 26, .inl (aN (updN hs k 1)))), (wA, .inl (cI, 2600, .inl u1)), (pA, .inl (cZ, 26, .inl (aN (fun _ => 0))))]) C Z 0 f_Model_98 rfl rfl rfl (Nat.le_of_ble_eq_true rfl) rfl d_Model_declare_294 (fun H locs Z => ?_)
          refine lv_aload_n C.1 C.2.1 d_Model_declare_297 rfl (lv_at hl 1 rfl) ?_
          refine lv_aload_n C.1 C.2.1 d_Model_declare_298 rfl (lv_at hl 1 rfl) ?_
          refine r_get C Z 0 f_Model_105 rfl rfl d_Model_declare_299 ?_
          refine lv_iconst (v := nI 1) C.1 C.2.1 d_Model_declare_302 (by decide) ?_
          refine lv_iadd C.1 C.2.1 d_Model_declare_303 ?_
          refine r_put (ws' := [(mA, .inr (3, [.ref ha, .int (nI 0), .ref tA, .int (nI at1), .ref bA, .ref eA, .ref zA, .int (en + nI 1), .ref wA, .int (nI lf), .ref pA, .int (nI 0), .int (nI nx), .int (nI ou), .ref oA, .int (nI os), .int (nI fi), .int (nI me), .int pu, .int (nI de), .int (nI 0), .int (-1), .int na, .long num])), (ha, .inl (cI, 400, .inl (aN hand))), (tA, .inl (cI, 2000, .inl (aN tx))), (bA, .inl (cI, 26, .inl (aN (updN bg k us)))), (eA, .inl (cI, 26, .inl (aN (updN ed k at1)))), (zA, .inl (cZ, 26, .inl (aN (updN hs k 1)))), (wA, .inl (cI, 2600, .inl u1)), (pA, .inl (cZ, 26, .inl (aN (fun _ => 0))))]) C Z 0 f_Model_105 rfl rfl rfl (Nat.le_of_ble_eq_true rfl) rfl d_Model_declare_304 (fun H locs Z => ?_)
          refine lv_iload_n C.1 C.2.1 d_Model_declare_307 rfl (lv_at hl 0 rfl) ?_
          refine lv_aload_n C.1 C.2.1 d_Model_declare_308 rfl (lv_at hl 1 rfl) ?_
          refine r_get C Z 0 f_Model_16 rfl rfl d_Model_declare_309 ?_
          refine lv_iload_n C.1 C.2.1 d_Model_declare_312 rfl (lv_at hl 2 rfl) ?_
          refine r_ildN C Z 3 rfl (by omega) (by decide) d_Model_declare_313 ?_
          refine lv_isub C.1 C.2.1 d_Model_declare_314 ?_
          exact r_iret C Z (lf, nx, 0, (-1), u1, tx, na, num, updN hs k 1, updN bg k us, updN ed k at1, at1, en + nI 1) (by clear C Z hl; exact ⟨_, _, _, hgo, Or.inr (Or.inr ⟨rfl, by omega, by dsimp only [updN]; rw [if_pos rfl], rfl, rfl, rfl, rfl, rfl⟩)⟩) rfl hQ d_Model_declare_315
        · skip
          refine lv_bipush (v := (-101)) C.1 C.2.1 d_Model_declare_265 (by decide) ?_
          exact r_iret C Z (lf, nx, 0, (-1), u1, tx, na, num, hs, bg, ed, us, en) (by clear C Z hl; exact ⟨_, _, _, hgo, Or.inr (Or.inl ⟨rfl, by omega, rfl, rfl, rfl, rfl, rfl, rfl⟩)⟩) rfl hQ d_Model_declare_267
      | cons y t =>
        have hcl : (y :: t).length = t.length + 1 := rfl
        have hy : y < 256 := hmk y List.mem_cons_self
        have hpk : pkN (y :: t) = y + 1 := by show (if y < 256 then y + 1 else 0) = y + 1; rw [if_pos hy]
        have hro : Row u1 t := hrow.2
        have hmk2 : ∀ x ∈ t, x < 256 := fun x hx => hmk x (List.mem_cons_of_mem _ hx)
        unfold mDl at hgo
        obtain ⟨nm, nu, hgo⟩ := hgo
        refine lv_aload_n C.1 C.2.1 d_Model_declare_34 rfl (lv_at hl 1 rfl) ?_
        refine r_get C Z 0 f_Model_53 rfl rfl d_Model_declare_35 ?_
        refine r_zle (tgt := 258) C d_Model_declare_38 (by decide) (by omega) (fun h38 => (by omega : False).elim) (fun h38 => ?_)
        refine lv_aload_n C.1 C.2.1 d_Model_declare_41 rfl (lv_at hl 1 rfl) ?_
        refine r_callVi (rest := []) (wr := [(ha, .inl (cI, 400, .inl (aN hand))), (tA, .inl (cI, 2000, .inl (aN tx))), (bA, .inl (cI, 26, .inl (aN bg))), (eA, .inl (cI, 26, .inl (aN ed))), (zA, .inl (cZ, 26, .inl (aN hs))), (pA, .inl (cZ, 26, .inl (aN (fun _ => 0))))]) (wn := fun u => [(mA, .inr (3, [.ref ha, .int (nI 0), .ref tA, .int (nI us), .ref bA, .ref eA, .ref zA, .int en, .ref wA, .int (nI lf), .ref pA, .int (nI 0), .int (nI nx), .int (nI ou), .ref oA, .int (nI os), .int (nI fi), .int (nI me), .int pu, .int (nI de), .int (nI 0), .int (-1), .int na, .long num])), (ha, .inl (cI, 400, .inl (aN hand))), (tA, .inl (cI, 2000, .inl (aN tx))), (bA, .inl (cI, 26, .inl (aN bg))), (eA, .inl (cI, 26, .inl (aN ed))), (zA, .inl (cZ, 26, .inl (aN hs))), (wA, .inl (cI, 2600, .inl u1)), (pA, .inl (cZ, 26, .inl (aN (fun _ => 0))))]) C Z (c_Model_peek l D cI cZ mA ha tA bA eA zA wA pA oA 0 us en lf 0 nx ou os fi me pu de 0 (-1) na num u1 (y :: t) y hrow (by omega) (by omega) hpk) k_Model_59 rfl ⟨by rw [hR]; decide, by rw [hR]; decide⟩ ⟨rfl, rfl⟩ [0, 6] [1, 2, 3, 4, 5, 7] [6, 0, 1, 2, 3, 4, 7, 5] (by decide) rfl rfl (by decide) (by decide) (by decide) (fun _ => rfl) 0 rfl rfl hl.1 rfl (Nat.le_of_ble_eq_true rfl) d_Model_declare_42 ⟨Nat.zero_le _, Nat.zero_le _⟩ (fun r u H locs hp Z => ?_)
        obtain ⟨hp1, hp2⟩ := hp; have hp1 := hp1.symm; have hp2 := hp2.symm; subst hp1; subst hp2
        have Z : Wd D A s.heap [(mA, .inr (3, [.ref ha, .int (nI 0), .ref tA, .int (nI us), .ref bA, .ref eA, .ref zA, .int en, .ref wA, .int (nI lf), .ref pA, .int (nI 0), .int (nI nx), .int (nI ou), .ref oA, .int (nI os), .int (nI fi), .int (nI me), .int pu, .int (nI de), .int (nI 0), .int (-1), .int na, .long num])), (ha, .inl (cI, 400, .inl (aN hand))), (tA, .inl (cI, 2000, .inl (aN tx))), (bA, .inl (cI, 26, .inl (aN bg))), (eA, .inl (cI, 26, .inl (aN ed))), (zA, .inl (cZ, 26, .inl (aN hs))), (wA, .inl (cI, 2600, .inl u1)), (pA, .inl (cZ, 26, .inl (aN (fun _ => 0))))] H locs := Z
        refine lv_istore_n (lv' := [(3, .int (nI y)), (2, .int (nI at1)), (0, .ref mA), (1, .int (nI k))]) C.1 C.2.1 d_Model_declare_45 rfl hl (by decide) rfl (fun ls hl => ?_)
        refine lv_aload_n C.1 C.2.1 d_Model_declare_46 rfl (lv_at hl 2 rfl) ?_
        refine r_get C Z 0 f_Model_56 rfl rfl d_Model_declare_47 ?_
        refine lv_istore (lv' := [(4, .int (nI nx)), (3, .int (nI y)), (2, .int (nI at1)), (0, .ref mA), (1, .int (nI k))]) C.1 C.2.1 d_Model_declare_50 hl (by decide) rfl (fun ls hl => ?_)
        refine lv_aload_n C.1 C.2.1 d_Model_declare_52 rfl (lv_at hl 3 rfl) ?_
        refine r_callVv (rest := []) (wr := [(ha, .inl (cI, 400, .inl (aN hand))), (tA, .inl (cI, 2000, .inl (aN tx))), (bA, .inl (cI, 26, .inl (aN bg))), (eA, .inl (cI, 26, .inl (aN ed))), (zA, .inl (cZ, 26, .inl (aN hs))), (wA, .inl (cI, 2600, .inl u1)), (pA, .inl (cZ, 26, .inl (aN (fun _ => 0))))]) (wn := fun u => [(mA, .inr (3, [.ref ha, .int (nI 0), .ref tA, .int (nI us), .ref bA, .ref eA, .ref zA, .int en, .ref wA, .int (nI u.1), .ref pA, .int (nI 0), .int (nI u.2), .int (nI ou), .ref oA, .int (nI os), .int (nI fi), .int (nI me), .int pu, .int (nI de), .int (nI 0), .int (-1), .int na, .long num])), (ha, .inl (cI, 400, .inl (aN hand))), (tA, .inl (cI, 2000, .inl (aN tx))), (bA, .inl (cI, 26, .inl (aN bg))), (eA, .inl (cI, 26, .inl (aN ed))), (zA, .inl (cZ, 26, .inl (aN hs))), (wA, .inl (cI, 2600, .inl u1)), (pA, .inl (cZ, 26, .inl (aN (fun _ => 0))))]) C Z (c_Model_pass l D cI cZ mA ha tA bA eA zA wA pA oA 0 us en lf 0 nx ou os fi me pu de 0 (-1) na num (by omega) (by omega) (by omega)) k_Model_74 rfl ⟨by rw [hR]; decide, by rw [hR]; decide⟩ ⟨rfl, rfl⟩ [0] [1, 2, 3, 4, 5, 6, 7] [7, 0, 1, 2, 3, 4, 5, 6] (by decide) rfl rfl (by decide) (by decide) (by decide) (fun _ => rfl) 0 rfl rfl hl.1 rfl (Nat.le_of_ble_eq_true rfl) d_Model_declare_53 ⟨Nat.zero_le _, Nat.zero_le _⟩ (fun u H locs hp Z => ?_)
        have hp := hp.symm; subst hp
        have Z : Wd D A s.heap [(mA, .inr (3, [.ref ha, .int (nI 0), .ref tA, .int (nI us), .ref bA, .ref eA, .ref zA, .int en, .ref wA, .int (nI (lf - 1)), .ref pA, .int (nI 0), .int (nI (nxP 0 nx)), .int (nI ou), .ref oA, .int (nI os), .int (nI fi), .int (nI me), .int pu, .int (nI de), .int (nI 0), .int (-1), .int na, .long num])), (ha, .inl (cI, 400, .inl (aN hand))), (tA, .inl (cI, 2000, .inl (aN tx))), (bA, .inl (cI, 26, .inl (aN bg))), (eA, .inl (cI, 26, .inl (aN ed))), (zA, .inl (cZ, 26, .inl (aN hs))), (wA, .inl (cI, 2600, .inl u1)), (pA, .inl (cZ, 26, .inl (aN (fun _ => 0))))] H locs := Z
        rw [show nxP 0 nx = nx + 1 from rfl] at Z
        refine lv_iload_n C.1 C.2.1 d_Model_declare_56 rfl (lv_at hl 1 rfl) ?_
        refine lv_bipush (v := nI 38) C.1 C.2.1 d_Model_declare_57 (by decide) ?_
        refine r_eq (tgt := 107) C d_Model_declare_59 (by decide) (by omega) (by omega) (fun h59 => ?_) (fun h59 => ?_)
        · skip
          rw [if_pos h59] at hgo
          refine lv_aload_n C.1 C.2.1 d_Model_declare_107 rfl (lv_at hl 3 rfl) ?_
          refine r_get C Z 0 f_Model_53 rfl rfl d_Model_declare_108 ?_
          refine lv_istore (lv' := [(5, .int (nI (lf - 1))), (4, .int (nI nx)), (3, .int (nI y)), (2, .int (nI at1)), (0, .ref mA), (1, .int (nI k))]) C.1 C.2.1 d_Model_declare_111 hl (by decide) rfl (fun ls hl => ?_)
          refine lv_aload_n C.1 C.2.1 d_Model_declare_113 rfl (lv_at hl 4 rfl) ?_
          refine lv_iload C.1 C.2.1 d_Model_declare_114 (lv_at hl 1 rfl) ?_
          refine r_callVi (rest := []) (wr := [(ha, .inl (cI, 400, .inl (aN hand))), (tA, .inl (cI, 2000, .inl (aN tx))), (bA, .inl (cI, 26, .inl (aN bg))), (eA, .inl (cI, 26, .inl (aN ed))), (zA, .inl (cZ, 26, .inl (aN hs))), (pA, .inl (cZ, 26, .inl (aN (fun _ => 0))))]) (wn := fun u => [(mA, .inr (3, [.ref ha, .int (nI 0), .ref tA, .int (nI us), .ref bA, .ref eA, .ref zA, .int en, .ref wA, .int (nI u.1), .ref pA, .int (nI 0), .int (nI u.2.1), .int (nI ou), .ref oA, .int (nI os), .int (nI fi), .int (nI me), .int pu, .int (nI de), .int (nI u.2.2.1), .int u.2.2.2.1, .int u.2.2.2.2.1, .long u.2.2.2.2.2])), (ha, .inl (cI, 400, .inl (aN hand))), (tA, .inl (cI, 2000, .inl (aN tx))), (bA, .inl (cI, 26, .inl (aN bg))), (eA, .inl (cI, 26, .inl (aN ed))), (zA, .inl (cZ, 26, .inl (aN hs))), (wA, .inl (cI, 2600, .inl u1)), (pA, .inl (cZ, 26, .inl (aN (fun _ => 0))))]) C Z (c_Model_reference l D cI cZ mA ha tA bA eA zA wA pA oA 0 us en (lf - 1) 0 (nx + 1) ou os fi me pu de 0 (-1) na num u1 t nx nm nu hro (by omega) (by omega) (fun x hx => by have := hmk2 x hx; omega) (by omega)) k_Model_101 rfl ⟨by rw [hR]; decide, by rw [hR]; decide⟩ ⟨rfl, rfl⟩ [0, 6] [1, 2, 3, 4, 5, 7] [6, 0, 1, 2, 3, 4, 7, 5] (by decide) rfl rfl (by decide) (by decide) (by decide) (fun _ => rfl) 0 rfl rfl hl.1 rfl (Nat.le_of_ble_eq_true rfl) d_Model_declare_116 ⟨Nat.zero_le _, Nat.zero_le _⟩ (fun r u H locs hp Z => ?_)
          obtain ⟨lf2, nx2, fa2, pl2, na2, num2⟩ := u
          have e2 : refPost 0 (nx + 1) ou nx 0 (-1) t.length (mRun 1 nm nu t) r (lf2, nx2, fa2, pl2, na2, num2) := hp
          have Z : Wd D A s.heap [(mA, .inr (3, [.ref ha, .int (nI 0), .ref tA, .int (nI us), .ref bA, .ref eA, .ref zA, .int en, .ref wA, .int (nI lf2), .ref pA, .int (nI 0), .int (nI nx2), .int (nI ou), .ref oA, .int (nI os), .int (nI fi), .int (nI me), .int pu, .int (nI de), .int (nI fa2), .int pl2, .int na2, .long num2])), (ha, .inl (cI, 400, .inl (aN hand))), (tA, .inl (cI, 2000, .inl (aN tx))), (bA, .inl (cI, 26, .inl (aN bg))), (eA, .inl (cI, 26, .inl (aN ed))), (zA, .inl (cZ, 26, .inl (aN hs))), (wA, .inl (cI, 2600, .inl u1)), (pA, .inl (cZ, 26, .inl (aN (fun _ => 0))))] H locs := Z
          obtain ⟨T, hTT⟩ : ∃ T, T = mRun 1 nm nu t := ⟨_, rfl⟩
          rw [← hTT] at e2 hgo
          have hT2 := mRun_2len (nm := nm) (nu := nu) (l := t)
          have hTn := mRun_nm (nm := nm) (nu := nu) (l := t)
          have hrl : T.2.2.2.length ≤ t.length := by rw [hTT]; exact mRun_len
          have hrt : Row u1 T.2.2.2 := by rw [hTT]; exact mRun_row hro
          have hmt : ∀ x ∈ T.2.2.2, x < 256 := by rw [hTT]; exact mRun_mem hmk2
          rw [← hTT] at hT2 hTn
          obtain ⟨g1, g2, g3⟩ := e2
          dsimp only at g1 g2 g3
          rw [show nxK 0 (nx + 1) (t.length - T.2.2.2.length) = nx + 1 + (t.length - T.2.2.2.length) from rfl] at g2
          subst g1
          subst g2
          rcases g3 with ⟨w1, rfl, w3, w4, w5⟩ | ⟨w1, rfl, w3, w4, w5, w6, w7⟩ | ⟨w1, rfl, w3, w4⟩ | ⟨w1, rfl, w3, w4⟩ | ⟨w1, rfl, w3, w4⟩
          · have w3 := w3.symm; subst w3; have w4 := w4.symm; subst w4; have w5 := w5.symm; subst w5
            rw [if_pos w1] at hgo
            have hkk := hTn w1
            have hk2 := hT2 w1
            refine r_zge (tgt := 129) C d_Model_declare_119 (by decide) (by omega) ?_
            refine lv_aload_n C.1 C.2.1 d_Model_declare_129 rfl (lv_at hl 4 rfl) ?_
            refine r_get C Z 0 f_Model_67 rfl rfl d_Model_declare_130 ?_
            refine r_zge (tgt := 140) C d_Model_declare_133 (by decide) (by omega) ?_
            refine lv_iload C.1 C.2.1 d_Model_declare_140 (lv_at hl 0 rfl) ?_
            refine lv_aload_n C.1 C.2.1 d_Model_declare_142 rfl (lv_at hl 4 rfl) ?_
            refine r_get C Z 0 f_Model_53 rfl rfl d_Model_declare_143 ?_
            refine r_sub C (by omega) d_Model_declare_146 ?_
            refine lv_iconst (v := nI 1) C.1 C.2.1 d_Model_declare_147 (by decide) ?_
            refine r_add C d_Model_declare_148 ?_
            refine lv_istore (lv' := [(6, .int (nI (((lf - 1) - T.2.2.2.length) + 1))), (5, .int (nI (lf - 1))), (4, .int (nI nx)), (3, .int (nI y)), (2, .int (nI at1)), (0, .ref mA), (1, .int (nI k))]) C.1 C.2.1 d_Model_declare_149 hl (by decide) rfl (fun ls hl => ?_)
            rw [show ((lf - 1) - T.2.2.2.length) + 1 = 3 by omega] at hl
            refine lv_iconst (v := nI 0) C.1 C.2.1 d_Model_declare_151 (by decide) ?_
            refine lv_istore (lv' := [(7, .int (nI 0)), (6, .int (nI 3)), (5, .int (nI (lf - 1))), (4, .int (nI nx)), (3, .int (nI y)), (2, .int (nI at1)), (0, .ref mA), (1, .int (nI k))]) C.1 C.2.1 d_Model_declare_152 hl (by decide) rfl (fun ls hl => ?_)
            refine lv_iload C.1 C.2.1 d_Model_declare_154 (lv_at hl 0 rfl) ?_
            refine lv_iload C.1 C.2.1 d_Model_declare_156 (lv_at hl 1 rfl) ?_
            refine r_ge (tgt := 255) C d_Model_declare_158 (by decide) (by omega) (by omega) (fun h158 => (by omega : False).elim) (fun h158 => ?_)
            refine lv_aload_n C.1 C.2.1 d_Model_declare_161 rfl (lv_at hl 6 rfl) ?_
            refine r_get C Z 0 f_Model_67 rfl rfl d_Model_declare_162 ?_
            refine r_zge (tgt := 176) C d_Model_declare_165 (by decide) (by omega) ?_
            refine lv_iload C.1 C.2.1 d_Model_declare_176 (lv_at hl 0 rfl) ?_
            refine r_zne (tgt := 186) C d_Model_declare_178 (by decide) (by omega) (fun h178 => (by omega : False).elim) (fun h178 => ?_)
            refine lv_bipush (v := nI 38) C.1 C.2.1 d_Model_declare_181 (by decide) ?_
            refine lv_goto (tgt := 204) C.1 C.2.1 d_Model_declare_183 (by decide) ?_
            refine lv_istore (lv' := [(8, .int (nI 38)), (7, .int (nI 0)), (6, .int (nI 3)), (5, .int (nI (lf - 1))), (4, .int (nI nx)), (3, .int (nI y)), (2, .int (nI at1)), (0, .ref mA), (1, .int (nI k))]) C.1 C.2.1 d_Model_declare_204 hl (by decide) rfl (fun ls hl => ?_)
            have join3 : ∀ (H : Heap) (locs : List Loc) (ls : Array Slot), Wd D A s.heap [(mA, .inr (3, [.ref ha, .int (nI 0), .ref tA, .int (nI us), .ref bA, .ref eA, .ref zA, .int en, .ref wA, .int (nI T.2.2.2.length), .ref pA, .int (nI 0), .int (nI (nx + 1 + (t.length - T.2.2.2.length))), .int (nI ou), .ref oA, .int (nI os), .int (nI fi), .int (nI me), .int pu, .int (nI de), .int (nI 0), .int (-1), .int (nI T.2.1), .long num2])), (ha, .inl (cI, 400, .inl (aN hand))), (tA, .inl (cI, 2000, .inl (aN (drX 0 at1 38 tx)))), (bA, .inl (cI, 26, .inl (aN bg))), (eA, .inl (cI, 26, .inl (aN ed))), (zA, .inl (cZ, 26, .inl (aN hs))), (wA, .inl (cI, 2600, .inl u1)), (pA, .inl (cZ, 26, .inl (aN (fun _ => 0))))] H locs → lv_has ls 9 [(8, .int (nI 38)), (7, .int (nI 0)), (6, .int (nI 3)), (5, .int (nI (lf - 1))), (4, .int (nI nx)), (3, .int (nI y)), (2, .int (nI at1)), (0, .ref mA), (1, .int (nI k))] → W p l e R s m args below meth cd H locs 0 0 Q (F0 m 245 ls []) := by
              intro H locs ls Z hl
              refine lv_iload_n C.1 C.2.1 d_Model_declare_245 rfl (lv_at hl 6 rfl) ?_
              refine lv_iconst (v := nI 1) C.1 C.2.1 d_Model_declare_246 (by decide) ?_
              refine r_add C d_Model_declare_247 ?_
              refine lv_istore_n (lv' := [(2, .int (nI (at1 + 1))), (8, .int (nI 38)), (7, .int (nI 0)), (6, .int (nI 3)), (5, .int (nI (lf - 1))), (4, .int (nI nx)), (3, .int (nI y)), (0, .ref mA), (1, .int (nI k))]) C.1 C.2.1 d_Model_declare_248 rfl hl (by decide) rfl (fun ls hl => ?_)
              refine lv_iinc (v := nI 1) (lv' := [(7, .int (nI 1)), (2, .int (nI (at1 + 1))), (8, .int (nI 38)), (6, .int (nI 3)), (5, .int (nI (lf - 1))), (4, .int (nI nx)), (3, .int (nI y)), (0, .ref mA), (1, .int (nI k))]) C.1 C.2.1 d_Model_declare_249 hl (k := 2) rfl (r_inc1 _) (by decide) rfl (fun ls hl => ?_)
              refine lv_goto (tgt := 154) C.1 C.2.1 d_Model_declare_252 (by decide) ?_
              refine lv_iload C.1 C.2.1 d_Model_declare_154 (lv_at hl 0 rfl) ?_
              refine lv_iload C.1 C.2.1 d_Model_declare_156 (lv_at hl 3 rfl) ?_
              refine r_ge (tgt := 255) C d_Model_declare_158 (by decide) (by omega) (by omega) (fun h158 => (by omega : False).elim) (fun h158 => ?_)
              refine lv_aload_n C.1 C.2.1 d_Model_declare_161 rfl (lv_at hl 7 rfl) ?_
              refine r_get C Z 0 f_Model_67 rfl rfl d_Model_declare_162 ?_
              refine r_zge (tgt := 176) C d_Model_declare_165 (by decide) (by omega) ?_
              refine lv_iload C.1 C.2.1 d_Model_declare_176 (lv_at hl 0 rfl) ?_
              refine r_zne (tgt := 186) C d_Model_declare_178 (by decide) (by omega) (fun h178 => ?_) (fun h178 => (by omega : False).elim)
              refine lv_iload C.1 C.2.1 d_Model_declare_186 (lv_at hl 0 rfl) ?_
              refine lv_iconst (v := nI 1) C.1 C.2.1 d_Model_declare_188 (by decide) ?_
              refine r_ne (tgt := 202) C d_Model_declare_189 (by decide) (by omega) (by omega) (fun h189 => (by omega : False).elim) (fun h189 => ?_)
              refine lv_bipush (v := nI 97) C.1 C.2.1 d_Model_declare_192 (by decide) ?_
              refine lv_aload_n C.1 C.2.1 d_Model_declare_194 rfl (lv_at hl 7 rfl) ?_
              refine r_get C Z 0 f_Model_67 rfl rfl d_Model_declare_195 ?_
              refine r_add C d_Model_declare_198 ?_
              refine lv_goto (tgt := 204) C.1 C.2.1 d_Model_declare_199 (by decide) ?_
              refine lv_istore (lv' := [(8, .int (nI (97 + T.2.1))), (7, .int (nI 1)), (2, .int (nI (at1 + 1))), (6, .int (nI 3)), (5, .int (nI (lf - 1))), (4, .int (nI nx)), (3, .int (nI y)), (0, .ref mA), (1, .int (nI k))]) C.1 C.2.1 d_Model_declare_204 hl (by decide) rfl (fun ls hl => ?_)
              have join4 : ∀ (H : Heap) (locs : List Loc) (ls : Array Slot), Wd D A s.heap [(mA, .inr (3, [.ref ha, .int (nI 0), .ref tA, .int (nI us), .ref bA, .ref eA, .ref zA, .int en, .ref wA, .int (nI T.2.2.2.length), .ref pA, .int (nI 0), .int (nI (nx + 1 + (t.length - T.2.2.2.length))), .int (nI ou), .ref oA, .int (nI os), .int (nI fi), .int (nI me), .int pu, .int (nI de), .int (nI 0), .int (-1), .int (nI T.2.1), .long num2])), (ha, .inl (cI, 400, .inl (aN hand))), (tA, .inl (cI, 2000, .inl (aN (drX 0 (at1 + 1) (97 + T.2.1) (drX 0 at1 38 tx))))), (bA, .inl (cI, 26, .inl (aN bg))), (eA, .inl (cI, 26, .inl (aN ed))), (zA, .inl (cZ, 26, .inl (aN hs))), (wA, .inl (cI, 2600, .inl u1)), (pA, .inl (cZ, 26, .inl (aN (fun _ => 0))))] H locs → lv_has ls 9 [(8, .int (nI (97 + T.2.1))), (7, .int (nI 1)), (2, .int (nI (at1 + 1))), (6, .int (nI 3)), (5, .int (nI (lf - 1))), (4, .int (nI nx)), (3, .int (nI y)), (0, .ref mA), (1, .int (nI k))] → W p l e R s m args below meth cd H locs 0 0 Q (F0 m 245 ls []) := by
                intro H locs ls Z hl
                refine lv_iload_n C.1 C.2.1 d_Model_declare_245 rfl (lv_at hl 2 rfl) ?_
                refine lv_iconst (v := nI 1) C.1 C.2.1 d_Model_declare_246 (by decide) ?_
                refine r_add C d_Model_declare_247 ?_
                refine lv_istore_n (lv' := [(2, .int (nI ((at1 + 1) + 1))), (8, .int (nI (97 + T.2.1))), (7, .int (nI 1)), (6, .int (nI 3)), (5, .int (nI (lf - 1))), (4, .int (nI nx)), (3, .int (nI y)), (0, .ref mA), (1, .int (nI k))]) C.1 C.2.1 d_Model_declare_248 rfl hl (by decide) rfl (fun ls hl => ?_)
                refine lv_iinc (v := nI 2) (lv' := [(7, .int (nI 2)), (2, .int (nI ((at1 + 1) + 1))), (8, .int (nI (97 + T.2.1))), (6, .int (nI 3)), (5, .int (nI (lf - 1))), (4, .int (nI nx)), (3, .int (nI y)), (0, .ref mA), (1, .int (nI k))]) C.1 C.2.1 d_Model_declare_249 hl (k := 2) rfl (r_inc1 _) (by decide) rfl (fun ls hl => ?_)
                refine lv_goto (tgt := 154) C.1 C.2.1 d_Model_declare_252 (by decide) ?_
                refine lv_iload C.1 C.2.1 d_Model_declare_154 (lv_at hl 0 rfl) ?_
                refine lv_iload C.1 C.2.1 d_Model_declare_156 (lv_at hl 3 rfl) ?_
                refine r_ge (tgt := 255) C d_Model_declare_158 (by decide) (by omega) (by omega) (fun h158 => (by omega : False).elim) (fun h158 => ?_)
                refine lv_aload_n C.1 C.2.1 d_Model_declare_161 rfl (lv_at hl 7 rfl) ?_
                refine r_get C Z 0 f_Model_67 rfl rfl d_Model_declare_162 ?_
                refine r_zge (tgt := 176) C d_Model_declare_165 (by decide) (by omega) ?_
                refine lv_iload C.1 C.2.1 d_Model_declare_176 (lv_at hl 0 rfl) ?_
                refine r_zne (tgt := 186) C d_Model_declare_178 (by decide) (by omega) (fun h178 => ?_) (fun h178 => (by omega : False).elim)
                refine lv_iload C.1 C.2.1 d_Model_declare_186 (lv_at hl 0 rfl) ?_
                refine lv_iconst (v := nI 1) C.1 C.2.1 d_Model_declare_188 (by decide) ?_
                refine r_ne (tgt := 202) C d_Model_declare_189 (by decide) (by omega) (by omega) (fun h189 => ?_) (fun h189 => (by omega : False).elim)
                refine lv_bipush (v := nI 59) C.1 C.2.1 d_Model_declare_202 (by decide) ?_
                refine lv_istore (lv' := [(8, .int (nI 59)), (7, .int (nI 2)), (2, .int (nI ((at1 + 1) + 1))), (6, .int (nI 3)), (5, .int (nI (lf - 1))), (4, .int (nI nx)), (3, .int (nI y)), (0, .ref mA), (1, .int (nI k))]) C.1 C.2.1 d_Model_declare_204 hl (by decide) rfl (fun ls hl => ?_)
                have join5 : ∀ (H : Heap) (locs : List Loc) (ls : Array Slot), Wd D A s.heap [(mA, .inr (3, [.ref ha, .int (nI 0), .ref tA, .int (nI us), .ref bA, .ref eA, .ref zA, .int en, .ref wA, .int (nI T.2.2.2.length), .ref pA, .int (nI 0), .int (nI (nx + 1 + (t.length - T.2.2.2.length))), .int (nI ou), .ref oA, .int (nI os), .int (nI fi), .int (nI me), .int pu, .int (nI de), .int (nI 0), .int (-1), .int (nI T.2.1), .long num2])), (ha, .inl (cI, 400, .inl (aN hand))), (tA, .inl (cI, 2000, .inl (aN (drX 0 ((at1 + 1) + 1) 59 (drX 0 (at1 + 1) (97 + T.2.1) (drX 0 at1 38 tx)))))), (bA, .inl (cI, 26, .inl (aN bg))), (eA, .inl (cI, 26, .inl (aN ed))), (zA, .inl (cZ, 26, .inl (aN hs))), (wA, .inl (cI, 2600, .inl u1)), (pA, .inl (cZ, 26, .inl (aN (fun _ => 0))))] H locs → lv_has ls 9 [(8, .int (nI 59)), (7, .int (nI 2)), (2, .int (nI ((at1 + 1) + 1))), (6, .int (nI 3)), (5, .int (nI (lf - 1))), (4, .int (nI nx)), (3, .int (nI y)), (0, .ref mA), (1, .int (nI k))] → W p l e R s m args below meth cd H locs 0 0 Q (F0 m 245 ls []) := by
                  intro H locs ls Z hl
                  refine lv_iload_n C.1 C.2.1 d_Model_declare_245 rfl (lv_at hl 2 rfl) ?_
                  refine lv_iconst (v := nI 1) C.1 C.2.1 d_Model_declare_246 (by decide) ?_
                  refine r_add C d_Model_declare_247 ?_
                  refine lv_istore_n (lv' := [(2, .int (nI (((at1 + 1) + 1) + 1))), (8, .int (nI 59)), (7, .int (nI 2)), (6, .int (nI 3)), (5, .int (nI (lf - 1))), (4, .int (nI nx)), (3, .int (nI y)), (0, .ref mA), (1, .int (nI k))]) C.1 C.2.1 d_Model_declare_248 rfl hl (by decide) rfl (fun ls hl => ?_)
                  refine lv_iinc (v := nI 3) (lv' := [(7, .int (nI 3)), (2, .int (nI (((at1 + 1) + 1) + 1))), (8, .int (nI 59)), (6, .int (nI 3)), (5, .int (nI (lf - 1))), (4, .int (nI nx)), (3, .int (nI y)), (0, .ref mA), (1, .int (nI k))]) C.1 C.2.1 d_Model_declare_249 hl (k := 2) rfl (r_inc1 _) (by decide) rfl (fun ls hl => ?_)
                  refine lv_goto (tgt := 154) C.1 C.2.1 d_Model_declare_252 (by decide) ?_
                  refine lv_iload C.1 C.2.1 d_Model_declare_154 (lv_at hl 0 rfl) ?_
                  refine lv_iload C.1 C.2.1 d_Model_declare_156 (lv_at hl 3 rfl) ?_
                  refine r_ge (tgt := 255) C d_Model_declare_158 (by decide) (by omega) (by omega) (fun h158 => ?_) (fun h158 => (by omega : False).elim)
                  have hl := lv_sub (l' := [(2, .int (nI (((at1 + 1) + 1) + 1))), (0, .ref mA), (1, .int (nI k))]) hl [1, 7, 8] rfl
                  refine lv_goto (tgt := 34) C.1 C.2.1 d_Model_declare_255 (by decide) ?_
                  exact ih T.2.2.2 _ _ _ _ _ _ (by first | rfl | omega) (by omega) hmt (by omega) hrt hgo _ _ _ Z hl
                refine lv_aload_n C.1 C.2.1 d_Model_declare_206 rfl (lv_at hl 7 rfl) ?_
                refine r_get C Z 0 f_Model_13 rfl rfl d_Model_declare_207 ?_
                refine lv_iload_n C.1 C.2.1 d_Model_declare_210 rfl (lv_at hl 2 rfl) ?_
                refine lv_sipush (v := nI 2000) C.1 C.2.1 d_Model_declare_211 (by decide) ?_
                refine r_ge (tgt := 221) C d_Model_declare_214 (by decide) (by omega) (by omega) (fun h214 => ?_) (fun h214 => ?_)
                · skip
                  refine lv_sipush (v := nI 1999) C.1 C.2.1 d_Model_declare_221 (by decide) ?_
                  refine lv_iload_n C.1 C.2.1 d_Model_declare_224 rfl (lv_at hl 2 rfl) ?_
                  refine lv_sipush (v := nI 2000) C.1 C.2.1 d_Model_declare_225 (by decide) ?_
                  refine r_ge (tgt := 236) C d_Model_declare_228 (by decide) (by omega) (by omega) (fun h228 => ?_) (fun h228 => (by omega : False).elim)
                  refine lv_aload_n C.1 C.2.1 d_Model_declare_236 rfl (lv_at hl 7 rfl) ?_
                  refine r_get C Z 0 f_Model_13 rfl rfl d_Model_declare_237 ?_
                  refine lv_sipush (v := nI 1999) C.1 C.2.1 d_Model_declare_240 (by decide) ?_
                  refine r_ildN C Z 2 rfl (by omega) (by decide) d_Model_declare_243 ?_
                  refine r_istN (ws' := [(mA, .inr (3, [.ref ha, .int (nI 0), .ref tA, .int (nI us), .ref bA, .ref eA, .ref zA, .int en, .ref wA, .int (nI T.2.2.2.length), .ref pA, .int (nI 0), .int (nI (nx + 1 + (t.length - T.2.2.2.length))), .int (nI ou), .ref oA, .int (nI os), .int (nI fi), .int (nI me), .int pu, .int (nI de), .int (nI 0), .int (-1), .int (nI T.2.1), .long num2])), (ha, .inl (cI, 400, .inl (aN hand))), (tA, .inl (cI, 2000, .inl (aN (updN (drX 0 (at1 + 1) (97 + T.2.1) (drX 0 at1 38 tx)) 1999 ((drX 0 (at1 + 1) (97 + T.2.1) (drX 0 at1 38 tx)) 1999))))), (bA, .inl (cI, 26, .inl (aN bg))), (eA, .inl (cI, 26, .inl (aN ed))), (zA, .inl (cZ, 26, .inl (aN hs))), (wA, .inl (cI, 2600, .inl u1)), (pA, .inl (cZ, 26, .inl (aN (fun _ => 0))))]) C Z 2 rfl (by omega) (by decide) rfl d_Model_declare_244 (fun H locs Z => ?_)
                  rw [drX_hi (c := 59) (by omega)] at Z
                  exact join5 _ _ _ Z hl
                · skip
                  refine lv_iload_n C.1 C.2.1 d_Model_declare_217 rfl (lv_at hl 2 rfl) ?_
                  refine lv_goto (tgt := 224) C.1 C.2.1 d_Model_declare_218 (by decide) ?_
                  refine lv_iload_n C.1 C.2.1 d_Model_declare_224 rfl (lv_at hl 2 rfl) ?_
                  refine lv_sipush (v := nI 2000) C.1 C.2.1 d_Model_declare_225 (by decide) ?_
                  refine r_ge (tgt := 236) C d_Model_declare_228 (by decide) (by omega) (by omega) (fun h228 => (by omega : False).elim) (fun h228 => ?_)
                  refine lv_iload C.1 C.2.1 d_Model_declare_231 (lv_at hl 0 rfl) ?_
                  refine lv_goto (tgt := 244) C.1 C.2.1 d_Model_declare_233 (by decide) ?_
                  refine r_istN (ws' := [(mA, .inr (3, [.ref ha, .int (nI 0), .ref tA, .int (nI us), .ref bA, .ref eA, .ref zA, .int en, .ref wA, .int (nI T.2.2.2.length), .ref pA, .int (nI 0), .int (nI (nx + 1 + (t.length - T.2.2.2.length))), .int (nI ou), .ref oA, .int (nI os), .int (nI fi), .int (nI me), .int pu, .int (nI de), .int (nI 0), .int (-1), .int (nI T.2.1), .long num2])), (ha, .inl (cI, 400, .inl (aN hand))), (tA, .inl (cI, 2000, .inl (aN (updN (drX 0 (at1 + 1) (97 + T.2.1) (drX 0 at1 38 tx)) ((at1 + 1) + 1) 59)))), (bA, .inl (cI, 26, .inl (aN bg))), (eA, .inl (cI, 26, .inl (aN ed))), (zA, .inl (cZ, 26, .inl (aN hs))), (wA, .inl (cI, 2600, .inl u1)), (pA, .inl (cZ, 26, .inl (aN (fun _ => 0))))]) C Z 2 rfl (by omega) (by decide) rfl d_Model_declare_244 (fun H locs Z => ?_)
                  rw [drX_lo (by omega)] at Z
                  exact join5 _ _ _ Z hl
              refine lv_aload_n C.1 C.2.1 d_Model_declare_206 rfl (lv_at hl 7 rfl) ?_
              refine r_get C Z 0 f_Model_13 rfl rfl d_Model_declare_207 ?_
              refine lv_iload_n C.1 C.2.1 d_Model_declare_210 rfl (lv_at hl 2 rfl) ?_
              refine lv_sipush (v := nI 2000) C.1 C.2.1 d_Model_declare_211 (by decide) ?_
              refine r_ge (tgt := 221) C d_Model_declare_214 (by decide) (by omega) (by omega) (fun h214 => ?_) (fun h214 => ?_)
              · skip
                refine lv_sipush (v := nI 1999) C.1 C.2.1 d_Model_declare_221 (by decide) ?_
                refine lv_iload_n C.1 C.2.1 d_Model_declare_224 rfl (lv_at hl 2 rfl) ?_
                refine lv_sipush (v := nI 2000) C.1 C.2.1 d_Model_declare_225 (by decide) ?_
                refine r_ge (tgt := 236) C d_Model_declare_228 (by decide) (by omega) (by omega) (fun h228 => ?_) (fun h228 => (by omega : False).elim)
                refine lv_aload_n C.1 C.2.1 d_Model_declare_236 rfl (lv_at hl 7 rfl) ?_
                refine r_get C Z 0 f_Model_13 rfl rfl d_Model_declare_237 ?_
                refine lv_sipush (v := nI 1999) C.1 C.2.1 d_Model_declare_240 (by decide) ?_
                refine r_ildN C Z 2 rfl (by omega) (by decide) d_Model_declare_243 ?_
                refine r_istN (ws' := [(mA, .inr (3, [.ref ha, .int (nI 0), .ref tA, .int (nI us), .ref bA, .ref eA, .ref zA, .int en, .ref wA, .int (nI T.2.2.2.length), .ref pA, .int (nI 0), .int (nI (nx + 1 + (t.length - T.2.2.2.length))), .int (nI ou), .ref oA, .int (nI os), .int (nI fi), .int (nI me), .int pu, .int (nI de), .int (nI 0), .int (-1), .int (nI T.2.1), .long num2])), (ha, .inl (cI, 400, .inl (aN hand))), (tA, .inl (cI, 2000, .inl (aN (updN (drX 0 at1 38 tx) 1999 ((drX 0 at1 38 tx) 1999))))), (bA, .inl (cI, 26, .inl (aN bg))), (eA, .inl (cI, 26, .inl (aN ed))), (zA, .inl (cZ, 26, .inl (aN hs))), (wA, .inl (cI, 2600, .inl u1)), (pA, .inl (cZ, 26, .inl (aN (fun _ => 0))))]) C Z 2 rfl (by omega) (by decide) rfl d_Model_declare_244 (fun H locs Z => ?_)
                rw [drX_hi (c := (97 + T.2.1)) (by omega)] at Z
                exact join4 _ _ _ Z hl
              · skip
                refine lv_iload_n C.1 C.2.1 d_Model_declare_217 rfl (lv_at hl 2 rfl) ?_
                refine lv_goto (tgt := 224) C.1 C.2.1 d_Model_declare_218 (by decide) ?_
                refine lv_iload_n C.1 C.2.1 d_Model_declare_224 rfl (lv_at hl 2 rfl) ?_
                refine lv_sipush (v := nI 2000) C.1 C.2.1 d_Model_declare_225 (by decide) ?_
                refine r_ge (tgt := 236) C d_Model_declare_228 (by decide) (by omega) (by omega) (fun h228 => (by omega : False).elim) (fun h228 => ?_)
                refine lv_iload C.1 C.2.1 d_Model_declare_231 (lv_at hl 0 rfl) ?_
                refine lv_goto (tgt := 244) C.1 C.2.1 d_Model_declare_233 (by decide) ?_
                refine r_istN (ws' := [(mA, .inr (3, [.ref ha, .int (nI 0), .ref tA, .int (nI us), .ref bA, .ref eA, .ref zA, .int en, .ref wA, .int (nI T.2.2.2.length), .ref pA, .int (nI 0), .int (nI (nx + 1 + (t.length - T.2.2.2.length))), .int (nI ou), .ref oA, .int (nI os), .int (nI fi), .int (nI me), .int pu, .int (nI de), .int (nI 0), .int (-1), .int (nI T.2.1), .long num2])), (ha, .inl (cI, 400, .inl (aN hand))), (tA, .inl (cI, 2000, .inl (aN (updN (drX 0 at1 38 tx) (at1 + 1) (97 + T.2.1))))), (bA, .inl (cI, 26, .inl (aN bg))), (eA, .inl (cI, 26, .inl (aN ed))), (zA, .inl (cZ, 26, .inl (aN hs))), (wA, .inl (cI, 2600, .inl u1)), (pA, .inl (cZ, 26, .inl (aN (fun _ => 0))))]) C Z 2 rfl (by omega) (by decide) rfl d_Model_declare_244 (fun H locs Z => ?_)
                rw [drX_lo (by omega)] at Z
                exact join4 _ _ _ Z hl
            refine lv_aload_n C.1 C.2.1 d_Model_declare_206 rfl (lv_at hl 7 rfl) ?_
            refine r_get C Z 0 f_Model_13 rfl rfl d_Model_declare_207 ?_
            refine lv_iload_n C.1 C.2.1 d_Model_declare_210 rfl (lv_at hl 6 rfl) ?_
            refine lv_sipush (v := nI 2000) C.1 C.2.1 d_Model_declare_211 (by decide) ?_
            refine r_ge (tgt := 221) C d_Model_declare_214 (by decide) (by omega) (by omega) (fun h214 => ?_) (fun h214 => ?_)
            · skip
              refine lv_sipush (v := nI 1999) C.1 C.2.1 d_Model_declare_221 (by decide) ?_
              refine lv_iload_n C.1 C.2.1 d_Model_declare_224 rfl (lv_at hl 6 rfl) ?_
              refine lv_sipush (v := nI 2000) C.1 C.2.1 d_Model_declare_225 (by decide) ?_
              refine r_ge (tgt := 236) C d_Model_declare_228 (by decide) (by omega) (by omega) (fun h228 => ?_) (fun h228 => (by omega : False).elim)
              refine lv_aload_n C.1 C.2.1 d_Model_declare_236 rfl (lv_at hl 7 rfl) ?_
              refine r_get C Z 0 f_Model_13 rfl rfl d_Model_declare_237 ?_
              refine lv_sipush (v := nI 1999) C.1 C.2.1 d_Model_declare_240 (by decide) ?_
              refine r_ildN C Z 2 rfl (by omega) (by decide) d_Model_declare_243 ?_
              refine r_istN (ws' := [(mA, .inr (3, [.ref ha, .int (nI 0), .ref tA, .int (nI us), .ref bA, .ref eA, .ref zA, .int en, .ref wA, .int (nI T.2.2.2.length), .ref pA, .int (nI 0), .int (nI (nx + 1 + (t.length - T.2.2.2.length))), .int (nI ou), .ref oA, .int (nI os), .int (nI fi), .int (nI me), .int pu, .int (nI de), .int (nI 0), .int (-1), .int (nI T.2.1), .long num2])), (ha, .inl (cI, 400, .inl (aN hand))), (tA, .inl (cI, 2000, .inl (aN (updN tx 1999 (tx 1999))))), (bA, .inl (cI, 26, .inl (aN bg))), (eA, .inl (cI, 26, .inl (aN ed))), (zA, .inl (cZ, 26, .inl (aN hs))), (wA, .inl (cI, 2600, .inl u1)), (pA, .inl (cZ, 26, .inl (aN (fun _ => 0))))]) C Z 2 rfl (by omega) (by decide) rfl d_Model_declare_244 (fun H locs Z => ?_)
              rw [drX_hi (c := 38) (by omega)] at Z
              exact join3 _ _ _ Z hl
            · skip
              refine lv_iload_n C.1 C.2.1 d_Model_declare_217 rfl (lv_at hl 6 rfl) ?_
              refine lv_goto (tgt := 224) C.1 C.2.1 d_Model_declare_218 (by decide) ?_
              refine lv_iload_n C.1 C.2.1 d_Model_declare_224 rfl (lv_at hl 6 rfl) ?_
              refine lv_sipush (v := nI 2000) C.1 C.2.1 d_Model_declare_225 (by decide) ?_
              refine r_ge (tgt := 236) C d_Model_declare_228 (by decide) (by omega) (by omega) (fun h228 => (by omega : False).elim) (fun h228 => ?_)
              refine lv_iload C.1 C.2.1 d_Model_declare_231 (lv_at hl 0 rfl) ?_
              refine lv_goto (tgt := 244) C.1 C.2.1 d_Model_declare_233 (by decide) ?_
              refine r_istN (ws' := [(mA, .inr (3, [.ref ha, .int (nI 0), .ref tA, .int (nI us), .ref bA, .ref eA, .ref zA, .int en, .ref wA, .int (nI T.2.2.2.length), .ref pA, .int (nI 0), .int (nI (nx + 1 + (t.length - T.2.2.2.length))), .int (nI ou), .ref oA, .int (nI os), .int (nI fi), .int (nI me), .int pu, .int (nI de), .int (nI 0), .int (-1), .int (nI T.2.1), .long num2])), (ha, .inl (cI, 400, .inl (aN hand))), (tA, .inl (cI, 2000, .inl (aN (updN tx at1 38)))), (bA, .inl (cI, 26, .inl (aN bg))), (eA, .inl (cI, 26, .inl (aN ed))), (zA, .inl (cZ, 26, .inl (aN hs))), (wA, .inl (cI, 2600, .inl u1)), (pA, .inl (cZ, 26, .inl (aN (fun _ => 0))))]) C Z 2 rfl (by omega) (by decide) rfl d_Model_declare_244 (fun H locs Z => ?_)
              rw [drX_lo (by omega)] at Z
              exact join3 _ _ _ Z hl
          · have w3 := w3.symm; subst w3; have w4 := w4.symm; subst w4; have w6 := w6.symm; subst w6; have w7 := w7.symm; subst w7
            rw [if_neg (by omega), if_pos w1] at hgo
            refine r_zge (tgt := 129) C d_Model_declare_119 (by decide) (by omega) ?_
            refine lv_aload_n C.1 C.2.1 d_Model_declare_129 rfl (lv_at hl 4 rfl) ?_
            refine r_get C Z 0 f_Model_67 rfl rfl d_Model_declare_130 ?_
            refine lv_if_ge (tgt := 140) C.1 C.2.1 d_Model_declare_133 (by decide) (fun h133 => absurd h133 (by decide)) (fun h133 => ?_)
            refine lv_iconst (v := nI 1) C.1 C.2.1 d_Model_declare_136 (by decide) ?_
            refine lv_goto (tgt := 149) C.1 C.2.1 d_Model_declare_137 (by decide) ?_
            refine lv_istore (lv' := [(6, .int (nI 1)), (5, .int (nI (lf - 1))), (4, .int (nI nx)), (3, .int (nI y)), (2, .int (nI at1)), (0, .ref mA), (1, .int (nI k))]) C.1 C.2.1 d_Model_declare_149 hl (by decide) rfl (fun ls hl => ?_)
            refine lv_iconst (v := nI 0) C.1 C.2.1 d_Model_declare_151 (by decide) ?_
            refine lv_istore (lv' := [(7, .int (nI 0)), (6, .int (nI 1)), (5, .int (nI (lf - 1))), (4, .int (nI nx)), (3, .int (nI y)), (2, .int (nI at1)), (0, .ref mA), (1, .int (nI k))]) C.1 C.2.1 d_Model_declare_152 hl (by decide) rfl (fun ls hl => ?_)
            refine lv_iload C.1 C.2.1 d_Model_declare_154 (lv_at hl 0 rfl) ?_
            refine lv_iload C.1 C.2.1 d_Model_declare_156 (lv_at hl 1 rfl) ?_
            refine r_ge (tgt := 255) C d_Model_declare_158 (by decide) (by omega) (by omega) (fun h158 => (by omega : False).elim) (fun h158 => ?_)
            refine lv_aload_n C.1 C.2.1 d_Model_declare_161 rfl (lv_at hl 6 rfl) ?_
            refine r_get C Z 0 f_Model_67 rfl rfl d_Model_declare_162 ?_
            refine lv_if_ge (tgt := 176) C.1 C.2.1 d_Model_declare_165 (by decide) (fun h165 => absurd h165 (by decide)) (fun h165 => ?_)
            refine lv_aload_n C.1 C.2.1 d_Model_declare_168 rfl (lv_at hl 6 rfl) ?_
            refine r_get C Z 0 f_Model_70 rfl rfl d_Model_declare_169 ?_
            refine lv_l2i C.1 C.2.1 d_Model_declare_172 rfl ?_
            rw [lN_i]
            refine lv_goto (tgt := 204) C.1 C.2.1 d_Model_declare_173 (by decide) ?_
            refine lv_istore (lv' := [(8, .int (nI T.2.2.1)), (7, .int (nI 0)), (6, .int (nI 1)), (5, .int (nI (lf - 1))), (4, .int (nI nx)), (3, .int (nI y)), (2, .int (nI at1)), (0, .ref mA), (1, .int (nI k))]) C.1 C.2.1 d_Model_declare_204 hl (by decide) rfl (fun ls hl => ?_)
            have join6 : ∀ (H : Heap) (locs : List Loc) (ls : Array Slot), Wd D A s.heap [(mA, .inr (3, [.ref ha, .int (nI 0), .ref tA, .int (nI us), .ref bA, .ref eA, .ref zA, .int en, .ref wA, .int (nI T.2.2.2.length), .ref pA, .int (nI 0), .int (nI (nx + 1 + (t.length - T.2.2.2.length))), .int (nI ou), .ref oA, .int (nI os), .int (nI fi), .int (nI me), .int pu, .int (nI de), .int (nI 0), .int (-1), .int (-1), .long (lN T.2.2.1)])), (ha, .inl (cI, 400, .inl (aN hand))), (tA, .inl (cI, 2000, .inl (aN (drX 0 at1 T.2.2.1 tx)))), (bA, .inl (cI, 26, .inl (aN bg))), (eA, .inl (cI, 26, .inl (aN ed))), (zA, .inl (cZ, 26, .inl (aN hs))), (wA, .inl (cI, 2600, .inl u1)), (pA, .inl (cZ, 26, .inl (aN (fun _ => 0))))] H locs → lv_has ls 9 [(8, .int (nI T.2.2.1)), (7, .int (nI 0)), (6, .int (nI 1)), (5, .int (nI (lf - 1))), (4, .int (nI nx)), (3, .int (nI y)), (2, .int (nI at1)), (0, .ref mA), (1, .int (nI k))] → W p l e R s m args below meth cd H locs 0 0 Q (F0 m 245 ls []) := by
              intro H locs ls Z hl
              refine lv_iload_n C.1 C.2.1 d_Model_declare_245 rfl (lv_at hl 6 rfl) ?_
              refine lv_iconst (v := nI 1) C.1 C.2.1 d_Model_declare_246 (by decide) ?_
              refine r_add C d_Model_declare_247 ?_
              refine lv_istore_n (lv' := [(2, .int (nI (at1 + 1))), (8, .int (nI T.2.2.1)), (7, .int (nI 0)), (6, .int (nI 1)), (5, .int (nI (lf - 1))), (4, .int (nI nx)), (3, .int (nI y)), (0, .ref mA), (1, .int (nI k))]) C.1 C.2.1 d_Model_declare_248 rfl hl (by decide) rfl (fun ls hl => ?_)
              refine lv_iinc (v := nI 1) (lv' := [(7, .int (nI 1)), (2, .int (nI (at1 + 1))), (8, .int (nI T.2.2.1)), (6, .int (nI 1)), (5, .int (nI (lf - 1))), (4, .int (nI nx)), (3, .int (nI y)), (0, .ref mA), (1, .int (nI k))]) C.1 C.2.1 d_Model_declare_249 hl (k := 2) rfl (r_inc1 _) (by decide) rfl (fun ls hl => ?_)
              refine lv_goto (tgt := 154) C.1 C.2.1 d_Model_declare_252 (by decide) ?_
              refine lv_iload C.1 C.2.1 d_Model_declare_154 (lv_at hl 0 rfl) ?_
              refine lv_iload C.1 C.2.1 d_Model_declare_156 (lv_at hl 3 rfl) ?_
              refine r_ge (tgt := 255) C d_Model_declare_158 (by decide) (by omega) (by omega) (fun h158 => ?_) (fun h158 => (by omega : False).elim)
              have hl := lv_sub (l' := [(2, .int (nI (at1 + 1))), (0, .ref mA), (1, .int (nI k))]) hl [1, 7, 8] rfl
              refine lv_goto (tgt := 34) C.1 C.2.1 d_Model_declare_255 (by decide) ?_
              exact ih T.2.2.2 _ _ _ _ _ _ (by first | rfl | omega) (by omega) hmt (by omega) hrt hgo _ _ _ Z hl
            refine lv_aload_n C.1 C.2.1 d_Model_declare_206 rfl (lv_at hl 7 rfl) ?_
            refine r_get C Z 0 f_Model_13 rfl rfl d_Model_declare_207 ?_
            refine lv_iload_n C.1 C.2.1 d_Model_declare_210 rfl (lv_at hl 6 rfl) ?_
            refine lv_sipush (v := nI 2000) C.1 C.2.1 d_Model_declare_211 (by decide) ?_
            refine r_ge (tgt := 221) C d_Model_declare_214 (by decide) (by omega) (by omega) (fun h214 => ?_) (fun h214 => ?_)
            · skip
              refine lv_sipush (v := nI 1999) C.1 C.2.1 d_Model_declare_221 (by decide) ?_
              refine lv_iload_n C.1 C.2.1 d_Model_declare_224 rfl (lv_at hl 6 rfl) ?_
              refine lv_sipush (v := nI 2000) C.1 C.2.1 d_Model_declare_225 (by decide) ?_
              refine r_ge (tgt := 236) C d_Model_declare_228 (by decide) (by omega) (by omega) (fun h228 => ?_) (fun h228 => (by omega : False).elim)
              refine lv_aload_n C.1 C.2.1 d_Model_declare_236 rfl (lv_at hl 7 rfl) ?_
              refine r_get C Z 0 f_Model_13 rfl rfl d_Model_declare_237 ?_
              refine lv_sipush (v := nI 1999) C.1 C.2.1 d_Model_declare_240 (by decide) ?_
              refine r_ildN C Z 2 rfl (by omega) (by decide) d_Model_declare_243 ?_
              refine r_istN (ws' := [(mA, .inr (3, [.ref ha, .int (nI 0), .ref tA, .int (nI us), .ref bA, .ref eA, .ref zA, .int en, .ref wA, .int (nI T.2.2.2.length), .ref pA, .int (nI 0), .int (nI (nx + 1 + (t.length - T.2.2.2.length))), .int (nI ou), .ref oA, .int (nI os), .int (nI fi), .int (nI me), .int pu, .int (nI de), .int (nI 0), .int (-1), .int (-1), .long (lN T.2.2.1)])), (ha, .inl (cI, 400, .inl (aN hand))), (tA, .inl (cI, 2000, .inl (aN (updN tx 1999 (tx 1999))))), (bA, .inl (cI, 26, .inl (aN bg))), (eA, .inl (cI, 26, .inl (aN ed))), (zA, .inl (cZ, 26, .inl (aN hs))), (wA, .inl (cI, 2600, .inl u1)), (pA, .inl (cZ, 26, .inl (aN (fun _ => 0))))]) C Z 2 rfl (by omega) (by decide) rfl d_Model_declare_244 (fun H locs Z => ?_)
              rw [drX_hi (c := T.2.2.1) (by omega)] at Z
              exact join6 _ _ _ Z hl
            · skip
              refine lv_iload_n C.1 C.2.1 d_Model_declare_217 rfl (lv_at hl 6 rfl) ?_
              refine lv_goto (tgt := 224) C.1 C.2.1 d_Model_declare_218 (by decide) ?_
              refine lv_iload_n C.1 C.2.1 d_Model_declare_224 rfl (lv_at hl 6 rfl) ?_
              refine lv_sipush (v := nI 2000) C.1 C.2.1 d_Model_declare_225 (by decide) ?_
              refine r_ge (tgt := 236) C d_Model_declare_228 (by decide) (by omega) (by omega) (fun h228 => (by omega : False).elim) (fun h228 => ?_)
              refine lv_iload C.1 C.2.1 d_Model_declare_231 (lv_at hl 0 rfl) ?_
              refine lv_goto (tgt := 244) C.1 C.2.1 d_Model_declare_233 (by decide) ?_
              refine r_istN (ws' := [(mA, .inr (3, [.ref ha, .int (nI 0), .ref tA, .int (nI us), .ref bA, .ref eA, .ref zA, .int en, .ref wA, .int (nI T.2.2.2.length), .ref pA, .int (nI 0), .int (nI (nx + 1 + (t.length - T.2.2.2.length))), .int (nI ou), .ref oA, .int (nI os), .int (nI fi), .int (nI me), .int pu, .int (nI de), .int (nI 0), .int (-1), .int (-1), .long (lN T.2.2.1)])), (ha, .inl (cI, 400, .inl (aN hand))), (tA, .inl (cI, 2000, .inl (aN (updN tx at1 T.2.2.1)))), (bA, .inl (cI, 26, .inl (aN bg))), (eA, .inl (cI, 26, .inl (aN ed))), (zA, .inl (cZ, 26, .inl (aN hs))), (wA, .inl (cI, 2600, .inl u1)), (pA, .inl (cZ, 26, .inl (aN (fun _ => 0))))]) C Z 2 rfl (by omega) (by decide) rfl d_Model_declare_244 (fun H locs Z => ?_)
              rw [drX_lo (by omega)] at Z
              exact join6 _ _ _ Z hl
          · have w3 := w3.symm; subst w3; have w4 := w4.symm; subst w4
            rw [if_neg (by omega), if_neg (by omega)] at hgo
            refine lv_if_ge (tgt := 129) C.1 C.2.1 d_Model_declare_119 (by decide) (fun h119 => absurd h119 (by decide)) (fun h119 => ?_)
            refine lv_iconst (v := (-1)) C.1 C.2.1 d_Model_declare_122 (by decide) ?_
            refine lv_aload_n C.1 C.2.1 d_Model_declare_123 rfl (lv_at hl 4 rfl) ?_
            refine r_get C Z 0 f_Model_44 rfl rfl d_Model_declare_124 ?_
            refine lv_isub C.1 C.2.1 d_Model_declare_127 ?_
            exact r_iret C Z (T.2.2.2.length, nx + 1 + (t.length - T.2.2.2.length), 8, plP 0 ou (nI nx), u1, tx, na2, num2, hs, bg, ed, us, en) (by clear C Z hl; exact ⟨_, _, _, by rw [hgo, if_pos w1, if_pos w1]; rfl, Or.inl ⟨by simp, rfl, rfl, rfl, rfl, rfl, rfl⟩⟩) rfl hQ d_Model_declare_128
          · have w3 := w3.symm; subst w3; have w4 := w4.symm; subst w4
            rw [if_neg (by omega), if_neg (by omega)] at hgo
            refine lv_if_ge (tgt := 129) C.1 C.2.1 d_Model_declare_119 (by decide) (fun h119 => absurd h119 (by decide)) (fun h119 => ?_)
            refine lv_iconst (v := (-1)) C.1 C.2.1 d_Model_declare_122 (by decide) ?_
            refine lv_aload_n C.1 C.2.1 d_Model_declare_123 rfl (lv_at hl 4 rfl) ?_
            refine r_get C Z 0 f_Model_44 rfl rfl d_Model_declare_124 ?_
            refine lv_isub C.1 C.2.1 d_Model_declare_127 ?_
            exact r_iret C Z (T.2.2.2.length, nx + 1 + (t.length - T.2.2.2.length), 2, plP 0 ou (nI (nx + 1 + (t.length - T.2.2.2.length))), u1, tx, na2, num2, hs, bg, ed, us, en) (by clear C Z hl; exact ⟨_, _, _, by rw [hgo, if_neg (by omega), if_neg (by omega)]; rfl, Or.inl ⟨by simp, rfl, rfl, rfl, rfl, rfl, rfl⟩⟩) rfl hQ d_Model_declare_128
          · have w3 := w3.symm; subst w3; have w4 := w4.symm; subst w4
            rw [if_neg (by omega), if_neg (by omega)] at hgo
            refine lv_if_ge (tgt := 129) C.1 C.2.1 d_Model_declare_119 (by decide) (fun h119 => absurd h119 (by decide)) (fun h119 => ?_)
            refine lv_iconst (v := (-1)) C.1 C.2.1 d_Model_declare_122 (by decide) ?_
            refine lv_aload_n C.1 C.2.1 d_Model_declare_123 rfl (lv_at hl 4 rfl) ?_
            refine r_get C Z 0 f_Model_44 rfl rfl d_Model_declare_124 ?_
            refine lv_isub C.1 C.2.1 d_Model_declare_127 ?_
            exact r_iret C Z (T.2.2.2.length, nx + 1 + (t.length - T.2.2.2.length), if 0 < 0 then 13 else 2, plP 0 ou (nI (nx + 1 + (t.length - T.2.2.2.length))), u1, tx, na2, num2, hs, bg, ed, us, en) (by clear C Z hl; exact ⟨_, _, _, by rw [hgo, if_neg (by omega), if_neg (by omega)]; rfl, Or.inl ⟨by simp, rfl, rfl, rfl, rfl, rfl, rfl⟩⟩) rfl hQ d_Model_declare_128
        · skip
          rw [if_neg h59] at hgo
          have join7 : ∀ (H : Heap) (locs : List Loc) (ls : Array Slot), Wd D A s.heap [(mA, .inr (3, [.ref ha, .int (nI 0), .ref tA, .int (nI us), .ref bA, .ref eA, .ref zA, .int en, .ref wA, .int (nI (lf - 1)), .ref pA, .int (nI 0), .int (nI (nx + 1)), .int (nI ou), .ref oA, .int (nI os), .int (nI fi), .int (nI me), .int pu, .int (nI de), .int (nI 0), .int (-1), .int na, .long num])), (ha, .inl (cI, 400, .inl (aN hand))), (tA, .inl (cI, 2000, .inl (aN (drX 0 at1 y tx)))), (bA, .inl (cI, 26, .inl (aN bg))), (eA, .inl (cI, 26, .inl (aN ed))), (zA, .inl (cZ, 26, .inl (aN hs))), (wA, .inl (cI, 2600, .inl u1)), (pA, .inl (cZ, 26, .inl (aN (fun _ => 0))))] H locs → lv_has ls 9 [(4, .int (nI nx)), (3, .int (nI y)), (2, .int (nI at1)), (0, .ref mA), (1, .int (nI k))] → W p l e R s m args below meth cd H locs 0 0 Q (F0 m 100 ls []) := by
            intro H locs ls Z hl
            refine lv_iload_n C.1 C.2.1 d_Model_declare_100 rfl (lv_at hl 2 rfl) ?_
            refine lv_iconst (v := nI 1) C.1 C.2.1 d_Model_declare_101 (by decide) ?_
            refine r_add C d_Model_declare_102 ?_
            refine lv_istore_n (lv' := [(2, .int (nI (at1 + 1))), (4, .int (nI nx)), (3, .int (nI y)), (0, .ref mA), (1, .int (nI k))]) C.1 C.2.1 d_Model_declare_103 rfl hl (by decide) rfl (fun ls hl => ?_)
            refine lv_goto (tgt := 255) C.1 C.2.1 d_Model_declare_104 (by decide) ?_
            have hl := lv_sub (l' := [(2, .int (nI (at1 + 1))), (0, .ref mA), (1, .int (nI k))]) hl [0, 3, 4] rfl
            refine lv_goto (tgt := 34) C.1 C.2.1 d_Model_declare_255 (by decide) ?_
            exact ih t _ _ _ _ _ _ (by first | rfl | omega) (by omega) hmk2 (by omega) hro hgo _ _ _ Z hl
          refine lv_aload_n C.1 C.2.1 d_Model_declare_62 rfl (lv_at hl 3 rfl) ?_
          refine r_get C Z 0 f_Model_13 rfl rfl d_Model_declare_63 ?_
          refine lv_iload_n C.1 C.2.1 d_Model_declare_66 rfl (lv_at hl 2 rfl) ?_
          refine lv_sipush (v := nI 2000) C.1 C.2.1 d_Model_declare_67 (by decide) ?_
          refine r_ge (tgt := 77) C d_Model_declare_70 (by decide) (by omega) (by omega) (fun h70 => ?_) (fun h70 => ?_)
          · skip
            refine lv_sipush (v := nI 1999) C.1 C.2.1 d_Model_declare_77 (by decide) ?_
            refine lv_iload_n C.1 C.2.1 d_Model_declare_80 rfl (lv_at hl 2 rfl) ?_
            refine lv_sipush (v := nI 2000) C.1 C.2.1 d_Model_declare_81 (by decide) ?_
            refine r_ge (tgt := 91) C d_Model_declare_84 (by decide) (by omega) (by omega) (fun h84 => ?_) (fun h84 => (by omega : False).elim)
            refine lv_aload_n C.1 C.2.1 d_Model_declare_91 rfl (lv_at hl 3 rfl) ?_
            refine r_get C Z 0 f_Model_13 rfl rfl d_Model_declare_92 ?_
            refine lv_sipush (v := nI 1999) C.1 C.2.1 d_Model_declare_95 (by decide) ?_
            refine r_ildN C Z 2 rfl (by omega) (by decide) d_Model_declare_98 ?_
            refine r_istN (ws' := [(mA, .inr (3, [.ref ha, .int (nI 0), .ref tA, .int (nI us), .ref bA, .ref eA, .ref zA, .int en, .ref wA, .int (nI (lf - 1)), .ref pA, .int (nI 0), .int (nI (nx + 1)), .int (nI ou), .ref oA, .int (nI os), .int (nI fi), .int (nI me), .int pu, .int (nI de), .int (nI 0), .int (-1), .int na, .long num])), (ha, .inl (cI, 400, .inl (aN hand))), (tA, .inl (cI, 2000, .inl (aN (updN tx 1999 (tx 1999))))), (bA, .inl (cI, 26, .inl (aN bg))), (eA, .inl (cI, 26, .inl (aN ed))), (zA, .inl (cZ, 26, .inl (aN hs))), (wA, .inl (cI, 2600, .inl u1)), (pA, .inl (cZ, 26, .inl (aN (fun _ => 0))))]) C Z 2 rfl (by omega) (by decide) rfl d_Model_declare_99 (fun H locs Z => ?_)
            rw [drX_hi (c := y) (by omega)] at Z
            exact join7 _ _ _ Z hl
          · skip
            refine lv_iload_n C.1 C.2.1 d_Model_declare_73 rfl (lv_at hl 2 rfl) ?_
            refine lv_goto (tgt := 80) C.1 C.2.1 d_Model_declare_74 (by decide) ?_
            refine lv_iload_n C.1 C.2.1 d_Model_declare_80 rfl (lv_at hl 2 rfl) ?_
            refine lv_sipush (v := nI 2000) C.1 C.2.1 d_Model_declare_81 (by decide) ?_
            refine r_ge (tgt := 91) C d_Model_declare_84 (by decide) (by omega) (by omega) (fun h84 => (by omega : False).elim) (fun h84 => ?_)
            refine lv_iload_n C.1 C.2.1 d_Model_declare_87 rfl (lv_at hl 1 rfl) ?_
            refine lv_goto (tgt := 99) C.1 C.2.1 d_Model_declare_88 (by decide) ?_
            refine r_istN (ws' := [(mA, .inr (3, [.ref ha, .int (nI 0), .ref tA, .int (nI us), .ref bA, .ref eA, .ref zA, .int en, .ref wA, .int (nI (lf - 1)), .ref pA, .int (nI 0), .int (nI (nx + 1)), .int (nI ou), .ref oA, .int (nI os), .int (nI fi), .int (nI me), .int pu, .int (nI de), .int (nI 0), .int (-1), .int na, .long num])), (ha, .inl (cI, 400, .inl (aN hand))), (tA, .inl (cI, 2000, .inl (aN (updN tx at1 y)))), (bA, .inl (cI, 26, .inl (aN bg))), (eA, .inl (cI, 26, .inl (aN ed))), (zA, .inl (cZ, 26, .inl (aN hs))), (wA, .inl (cI, 2600, .inl u1)), (pA, .inl (cZ, 26, .inl (aN (fun _ => 0))))]) C Z 2 rfl (by omega) (by decide) rfl d_Model_declare_99 (fun H locs Z => ?_)
            rw [drX_lo (by omega)] at Z
            exact join7 _ _ _ Z hl
  exact loop N _ _ _ _ _ _ _ (by rw [seg_len]) hn (seg_lt hh _ _) (by omega) e1 hgo _ _ _ Z hl
