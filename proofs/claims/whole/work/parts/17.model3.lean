set_option maxHeartbeats 4000000 in
set_option maxRecDepth 100000 in
theorem c_Model_begin (l : Launch) (D : va_G) (cI cZ : ClassId) (mA ha tA bA eA zA wA pA oA : Nat) (n : Nat) (us : Nat) (en : Int32) (lf : Nat) (dp : Nat) (nx : Nat) (ou : Nat) (os : Nat) (fi : Nat) (me : Nat) (pu : Int32) (de : Nat) (fa : Nat) (pl : Int32) (na : Int32) (num : Int64) (hand : Nat → Nat) (rw : Nat → Int32) (opn : Nat → Nat) (hn : n ≤ 400) (hh : ∀ j, hand j < 256) : Mv l y_Model_begin b_Model_begin 2 ({ frames := 0, cells := 0, slots := 0, locals := 0 } : Room) D cI cZ [.ref mA] [(mA, .inr (3, [.ref ha, .int (nI n), .ref tA, .int (nI us), .ref bA, .ref eA, .ref zA, .int en, .ref wA, .int (nI lf), .ref pA, .int (nI dp), .int (nI nx), .int (nI ou), .ref oA, .int (nI os), .int (nI fi), .int (nI me), .int pu, .int (nI de), .int (nI fa), .int pl, .int na, .long num])), (ha, .inl (cI, 400, .inl (aN hand))), (wA, .inl (cI, 2600, .inl rw)), (pA, .inl (cZ, 26, .inl (aN opn)))] (fun u : Nat → Int32 => Row u (seg hand 0 n)) (fun u : Nat → Int32 => [(mA, .inr (3, [.ref ha, .int (nI 0), .ref tA, .int (nI us), .ref bA, .ref eA, .ref zA, .int en, .ref wA, .int (nI n), .ref pA, .int (nI 0), .int (nI 0), .int (nI ou), .ref oA, .int (nI os), .int (nI fi), .int (nI me), .int pu, .int (nI de), .int (nI 0), .int (-1), .int na, .long num])), (ha, .inl (cI, 400, .inl (aN hand))), (wA, .inl (cI, 2600, .inl u)), (pA, .inl (cZ, 26, .inl (aN (fun _ => 0))))]) 0 0 := by
  refine Mv.intro (by decide) (Nat.le_of_ble_eq_true rfl) ?_
  intro p e s m args below meth cd A ls R Q hR hQ C hin Z hl
  have hl : lv_has ls 2 [(0, .ref mA)] := hl
  refine lv_iconst (v := nI 0) C.1 C.2.1 d_Model_begin_0 (by decide) ?_
  refine lv_istore_n (lv' := [(1, .int (nI 0)), (0, .ref mA)]) C.1 C.2.1 d_Model_begin_1 rfl hl (by decide) rfl (fun ls hl => ?_)
  have loop : ∀ (r k : Nat) (rw : Nat → Int32), k + r = n → Row rw (seg hand (n - k) k) → ∀ (H : Heap) (locs : List Loc) (ls : Array Slot), Wd D A s.heap [(mA, .inr (3, [.ref ha, .int (nI n), .ref tA, .int (nI us), .ref bA, .ref eA, .ref zA, .int en, .ref wA, .int (nI lf), .ref pA, .int (nI dp), .int (nI nx), .int (nI ou), .ref oA, .int (nI os), .int (nI fi), .int (nI me), .int pu, .int (nI de), .int (nI fa), .int pl, .int na, .long num])), (ha, .inl (cI, 400, .inl (aN hand))), (wA, .inl (cI, 2600, .inl rw)), (pA, .inl (cZ, 26, .inl (aN opn)))] H locs → lv_has ls 2 [(1, .int (nI k)), (0, .ref mA)] → W p l e R s m args below meth cd H locs 0 0 Q (F0 m 2 ls []) := by
    clear hl Z
    intro r
    induction r with
    | zero =>
      intro k rw hkr hrow H locs ls Z hl
      have hrow : Row rw (seg hand 0 n) := by rw [show k = n by omega, Nat.sub_self] at hrow; exact hrow
      refine lv_iload_n C.1 C.2.1 d_Model_begin_2 rfl (lv_at hl 0 rfl) ?_
      refine lv_aload_n C.1 C.2.1 d_Model_begin_3 rfl (lv_at hl 1 rfl) ?_
      refine r_get C Z 0 f_Model_39 rfl rfl d_Model_begin_4 ?_
      refine r_ge (tgt := 35) C d_Model_begin_7 (by decide) (by omega) (by omega) (fun h7 => ?_) (fun h7 => (by omega : False).elim)
      refine lv_aload_n C.1 C.2.1 d_Model_begin_35 rfl (lv_at hl 1 rfl) ?_
      refine lv_aload_n C.1 C.2.1 d_Model_begin_36 rfl (lv_at hl 1 rfl) ?_
      refine r_get C Z 0 f_Model_39 rfl rfl d_Model_begin_37 ?_
      refine r_put (ws' := [(mA, .inr (3, [.ref ha, .int (nI n), .ref tA, .int (nI us), .ref bA, .ref eA, .ref zA, .int en, .ref wA, .int (nI n), .ref pA, .int (nI dp), .int (nI nx), .int (nI ou), .ref oA, .int (nI os), .int (nI fi), .int (nI me), .int pu, .int (nI de), .int (nI fa), .int pl, .int na, .long num])), (ha, .inl (cI, 400, .inl (aN hand))), (wA, .inl (cI, 2600, .inl rw)), (pA, .inl (cZ, 26, .inl (aN opn)))]) C Z 0 f_Model_53 rfl rfl rfl (Nat.le_of_ble_eq_true rfl) rfl d_Model_begin_40 (fun H locs Z => ?_)
      refine lv_aload_n C.1 C.2.1 d_Model_begin_43 rfl (lv_at hl 1 rfl) ?_
      refine lv_iconst (v := nI 0) C.1 C.2.1 d_Model_begin_44 (by decide) ?_
      refine r_put (ws' := [(mA, .inr (3, [.ref ha, .int (nI 0), .ref tA, .int (nI us), .ref bA, .ref eA, .ref zA, .int en, .ref wA, .int (nI n), .ref pA, .int (nI dp), .int (nI nx), .int (nI ou), .ref oA, .int (nI os), .int (nI fi), .int (nI me), .int pu, .int (nI de), .int (nI fa), .int pl, .int na, .long num])), (ha, .inl (cI, 400, .inl (aN hand))), (wA, .inl (cI, 2600, .inl rw)), (pA, .inl (cZ, 26, .inl (aN opn)))]) C Z 0 f_Model_39 rfl rfl rfl (Nat.le_of_ble_eq_true rfl) rfl d_Model_begin_45 (fun H locs Z => ?_)
      refine lv_aload_n C.1 C.2.1 d_Model_begin_48 rfl (lv_at hl 1 rfl) ?_
      refine lv_iconst (v := nI 0) C.1 C.2.1 d_Model_begin_49 (by decide) ?_
      refine r_put (ws' := [(mA, .inr (3, [.ref ha, .int (nI 0), .ref tA, .int (nI us), .ref bA, .ref eA, .ref zA, .int en, .ref wA, .int (nI n), .ref pA, .int (nI 0), .int (nI nx), .int (nI ou), .ref oA, .int (nI os), .int (nI fi), .int (nI me), .int pu, .int (nI de), .int (nI fa), .int pl, .int na, .long num])), (ha, .inl (cI, 400, .inl (aN hand))), (wA, .inl (cI, 2600, .inl rw)), (pA, .inl (cZ, 26, .inl (aN opn)))]) C Z 0 f_Model_47 rfl rfl rfl (Nat.le_of_ble_eq_true rfl) rfl d_Model_begin_50 (fun H locs Z => ?_)
      refine lv_aload_n C.1 C.2.1 d_Model_begin_53 rfl (lv_at hl 1 rfl) ?_
      refine lv_iconst (v := nI 0) C.1 C.2.1 d_Model_begin_54 (by decide) ?_
      refine r_put (ws' := [(mA, .inr (3, [.ref ha, .int (nI 0), .ref tA, .int (nI us), .ref bA, .ref eA, .ref zA, .int en, .ref wA, .int (nI n), .ref pA, .int (nI 0), .int (nI 0), .int (nI ou), .ref oA, .int (nI os), .int (nI fi), .int (nI me), .int pu, .int (nI de), .int (nI fa), .int pl, .int na, .long num])), (ha, .inl (cI, 400, .inl (aN hand))), (wA, .inl (cI, 2600, .inl rw)), (pA, .inl (cZ, 26, .inl (aN opn)))]) C Z 0 f_Model_56 rfl rfl rfl (Nat.le_of_ble_eq_true rfl) rfl d_Model_begin_55 (fun H locs Z => ?_)
      refine lv_aload_n C.1 C.2.1 d_Model_begin_58 rfl (lv_at hl 1 rfl) ?_
      refine lv_iconst (v := nI 0) C.1 C.2.1 d_Model_begin_59 (by decide) ?_
      refine r_put (ws' := [(mA, .inr (3, [.ref ha, .int (nI 0), .ref tA, .int (nI us), .ref bA, .ref eA, .ref zA, .int en, .ref wA, .int (nI n), .ref pA, .int (nI 0), .int (nI 0), .int (nI ou), .ref oA, .int (nI os), .int (nI fi), .int (nI me), .int pu, .int (nI de), .int (nI 0), .int pl, .int na, .long num])), (ha, .inl (cI, 400, .inl (aN hand))), (wA, .inl (cI, 2600, .inl rw)), (pA, .inl (cZ, 26, .inl (aN opn)))]) C Z 0 f_Model_44 rfl rfl rfl (Nat.le_of_ble_eq_true rfl) rfl d_Model_begin_60 (fun H locs Z => ?_)
      refine lv_aload_n C.1 C.2.1 d_Model_begin_63 rfl (lv_at hl 1 rfl) ?_
      refine lv_iconst (v := (-1)) C.1 C.2.1 d_Model_begin_64 (by decide) ?_
      refine r_put (ws' := [(mA, .inr (3, [.ref ha, .int (nI 0), .ref tA, .int (nI us), .ref bA, .ref eA, .ref zA, .int en, .ref wA, .int (nI n), .ref pA, .int (nI 0), .int (nI 0), .int (nI ou), .ref oA, .int (nI os), .int (nI fi), .int (nI me), .int pu, .int (nI de), .int (nI 0), .int (-1), .int na, .long num])), (ha, .inl (cI, 400, .inl (aN hand))), (wA, .inl (cI, 2600, .inl rw)), (pA, .inl (cZ, 26, .inl (aN opn)))]) C Z 0 f_Model_35 rfl rfl rfl (Nat.le_of_ble_eq_true rfl) rfl d_Model_begin_65 (fun H locs Z => ?_)
      refine lv_iconst (v := nI 0) C.1 C.2.1 d_Model_begin_68 (by decide) ?_
      refine lv_istore_n (lv' := [(1, .int (nI 0)), (0, .ref mA)]) C.1 C.2.1 d_Model_begin_69 rfl hl (by decide) rfl (fun ls hl => ?_)
      have loop2 : ∀ (r j : Nat) (opn : Nat → Nat), j + r = 26 → (∀ i, i < j → opn i = 0) → ∀ (H : Heap) (locs : List Loc) (ls : Array Slot), Wd D A s.heap [(mA, .inr (3, [.ref ha, .int (nI 0), .ref tA, .int (nI us), .ref bA, .ref eA, .ref zA, .int en, .ref wA, .int (nI n), .ref pA, .int (nI 0), .int (nI 0), .int (nI ou), .ref oA, .int (nI os), .int (nI fi), .int (nI me), .int pu, .int (nI de), .int (nI 0), .int (-1), .int na, .long num])), (ha, .inl (cI, 400, .inl (aN hand))), (wA, .inl (cI, 2600, .inl rw)), (pA, .inl (cZ, 26, .inl (aN opn)))] H locs → lv_has ls 2 [(1, .int (nI j)), (0, .ref mA)] → W p l e R s m args below meth cd H locs 0 0 Q (F0 m 70 ls []) := by
        clear hl Z
        intro r
        induction r with
        | zero =>
          intro j opn hjr hop H locs ls Z hl
          refine lv_iload_n C.1 C.2.1 d_Model_begin_70 rfl (lv_at hl 0 rfl) ?_
          refine lv_bipush (v := nI 26) C.1 C.2.1 d_Model_begin_71 (by decide) ?_
          refine r_ge (tgt := 89) C d_Model_begin_73 (by decide) (by omega) (by omega) (fun h73 => ?_) (fun h73 => (by omega : False).elim)
          have Z := Wd.reArr (g := aN (fun _ => 0)) (ws' := [(mA, .inr (3, [.ref ha, .int (nI 0), .ref tA, .int (nI us), .ref bA, .ref eA, .ref zA, .int en, .ref wA, .int (nI n), .ref pA, .int (nI 0), .int (nI 0), .int (nI ou), .ref oA, .int (nI os), .int (nI fi), .int (nI me), .int pu, .int (nI de), .int (nI 0), .int (-1), .int na, .long num])), (ha, .inl (cI, 400, .inl (aN hand))), (wA, .inl (cI, 2600, .inl rw)), (pA, .inl (cZ, 26, .inl (aN (fun _ => 0))))]) Z 3 rfl (fun i hi => by show nI (opn i) = nI 0; rw [hop i (by omega)]) rfl
          exact r_vret C Z rw hrow rfl hQ d_Model_begin_89
        | succ r ih =>
          intro j opn hjr hop H locs ls Z hl
          refine lv_iload_n C.1 C.2.1 d_Model_begin_70 rfl (lv_at hl 0 rfl) ?_
          refine lv_bipush (v := nI 26) C.1 C.2.1 d_Model_begin_71 (by decide) ?_
          refine r_ge (tgt := 89) C d_Model_begin_73 (by decide) (by omega) (by omega) (fun h73 => (by omega : False).elim) (fun h73 => ?_)
          refine lv_aload_n C.1 C.2.1 d_Model_begin_76 rfl (lv_at hl 1 rfl) ?_
          refine r_get C Z 0 f_Model_29 rfl rfl d_Model_begin_77 ?_
          refine lv_iload_n C.1 C.2.1 d_Model_begin_80 rfl (lv_at hl 0 rfl) ?_
          refine lv_iconst (v := nI 0) C.1 C.2.1 d_Model_begin_81 (by decide) ?_
          refine r_zstN (ws' := [(mA, .inr (3, [.ref ha, .int (nI 0), .ref tA, .int (nI us), .ref bA, .ref eA, .ref zA, .int en, .ref wA, .int (nI n), .ref pA, .int (nI 0), .int (nI 0), .int (nI ou), .ref oA, .int (nI os), .int (nI fi), .int (nI me), .int pu, .int (nI de), .int (nI 0), .int (-1), .int na, .long num])), (ha, .inl (cI, 400, .inl (aN hand))), (wA, .inl (cI, 2600, .inl rw)), (pA, .inl (cZ, 26, .inl (aN (updN opn j 0))))]) C Z 3 rfl (by omega) (by decide) (by omega) rfl d_Model_begin_82 (fun H locs Z => ?_)
          refine lv_iinc (v := nI (j + 1)) (lv' := [(1, .int (nI (j + 1))), (0, .ref mA)]) C.1 C.2.1 d_Model_begin_83 hl (k := 0) rfl (r_inc1 _) (by decide) rfl (fun ls hl => ?_)
          refine lv_goto (tgt := 70) C.1 C.2.1 d_Model_begin_86 (by decide) ?_
          exact ih (j + 1) _ (by omega) (fun i hi => by unfold updN; split <;> first | rfl | exact hop i (by omega)) _ _ _ Z hl
      exact loop2 26 0 opn (by omega) (by intro i hi; omega) _ _ _ Z hl
    | succ r ih =>
      intro k rw hkr hrow H locs ls Z hl
      refine lv_iload_n C.1 C.2.1 d_Model_begin_2 rfl (lv_at hl 0 rfl) ?_
      refine lv_aload_n C.1 C.2.1 d_Model_begin_3 rfl (lv_at hl 1 rfl) ?_
      refine r_get C Z 0 f_Model_39 rfl rfl d_Model_begin_4 ?_
      refine r_ge (tgt := 35) C d_Model_begin_7 (by decide) (by omega) (by omega) (fun h7 => (by omega : False).elim) (fun h7 => ?_)
      refine lv_aload_n C.1 C.2.1 d_Model_begin_10 rfl (lv_at hl 1 rfl) ?_
      refine r_get C Z 0 f_Model_26 rfl rfl d_Model_begin_11 ?_
      refine lv_iload_n C.1 C.2.1 d_Model_begin_14 rfl (lv_at hl 0 rfl) ?_
      refine lv_aload_n C.1 C.2.1 d_Model_begin_15 rfl (lv_at hl 1 rfl) ?_
      refine r_get C Z 0 f_Model_7 rfl rfl d_Model_begin_16 ?_
      refine lv_aload_n C.1 C.2.1 d_Model_begin_19 rfl (lv_at hl 1 rfl) ?_
      refine r_get C Z 0 f_Model_39 rfl rfl d_Model_begin_20 ?_
      refine lv_iconst (v := nI 1) C.1 C.2.1 d_Model_begin_23 (by decide) ?_
      refine r_sub C (by omega) d_Model_begin_24 ?_
      refine lv_iload_n C.1 C.2.1 d_Model_begin_25 rfl (lv_at hl 0 rfl) ?_
      refine r_sub C (by omega) d_Model_begin_26 ?_
      refine r_ildN C Z 1 rfl (by omega) (by decide) d_Model_begin_27 ?_
      refine r_ist (ws' := [(mA, .inr (3, [.ref ha, .int (nI n), .ref tA, .int (nI us), .ref bA, .ref eA, .ref zA, .int en, .ref wA, .int (nI lf), .ref pA, .int (nI dp), .int (nI nx), .int (nI ou), .ref oA, .int (nI os), .int (nI fi), .int (nI me), .int pu, .int (nI de), .int (nI fa), .int pl, .int na, .long num])), (ha, .inl (cI, 400, .inl (aN hand))), (wA, .inl (cI, 2600, .inl (upd rw k (nI (hand ((n - 1) - k)))))), (pA, .inl (cZ, 26, .inl (aN opn)))]) C Z 2 rfl (by omega) (by decide) rfl rfl d_Model_begin_28 (fun H locs Z => ?_)
      refine lv_iinc (v := nI (k + 1)) (lv' := [(1, .int (nI (k + 1))), (0, .ref mA)]) C.1 C.2.1 d_Model_begin_29 hl (k := 0) rfl (r_inc1 _) (by decide) rfl (fun ls hl => ?_)
      refine lv_goto (tgt := 2) C.1 C.2.1 d_Model_begin_32 (by decide) ?_
      exact ih (k + 1) _ (by omega) (Row_seg (by omega) hrow (hh _)) _ _ _ Z hl
  exact loop n 0 rw (by omega) (by rw [Nat.sub_zero]; trivial) _ _ _ Z hl

set_option maxHeartbeats 4000000 in
set_option maxRecDepth 100000 in
theorem c_Model_enterF (l : Launch) (D : va_G) (cI cZ : ClassId) (mA ha tA bA eA zA wA pA oA : Nat) (n : Nat) (us : Nat) (en : Int32) (lf : Nat) (dp : Nat) (nx : Nat) (ou : Nat) (os : Nat) (fi : Nat) (me : Nat) (pu : Int32) (de : Nat) (fa : Nat) (pl : Int32) (num : Int64) (bg : Nat → Nat) (ed : Nat → Nat) (hs : Nat → Nat) (opn : Nat → Nat) (ln : Nat → Nat) (k : Nat) (x : Nat) (q : Nat) (hk : k < 26) (hhs : hs k = min (ln k) 1) (hed : ln k ≠ 0 → ed k = bg k + (ln k - 1) ∧ ed k ≤ 2000) (hln : ln k ≤ 2001) (hop : opn k ≤ 1) (hdp : dp ≤ 12) (hme : me ≤ 100000) (hq : q ≤ 100000) (hf : fltE (ln k) (opn k) (dp + 1) me q ≠ 0) : Mi l y_Model_enter b_Model_enter 5 (some .int) ({ frames := 1, cells := 0, slots := 0, locals := 22 } : Room) D cI cZ [.ref mA, .int (nI x), .int (nI q)] [(mA, .inr (3, [.ref ha, .int (nI n), .ref tA, .int (nI us), .ref bA, .ref eA, .ref zA, .int en, .ref wA, .int (nI lf), .ref pA, .int (nI dp), .int (nI nx), .int (nI ou), .ref oA, .int (nI os), .int (nI fi), .int (nI me), .int pu, .int (nI de), .int (nI fa), .int pl, .int (nI k), .long num])), (bA, .inl (cI, 26, .inl (aN bg))), (eA, .inl (cI, 26, .inl (aN ed))), (zA, .inl (cZ, 26, .inl (aN hs))), (pA, .inl (cZ, 26, .inl (aN opn)))] (fun (r : Int32) (u : Nat × Int32) => r = (-1) ∧ u = (fltE (ln k) (opn k) (dp + 1) me q, plP dp ou (nI x))) (fun u : Nat × Int32 => [(mA, .inr (3, [.ref ha, .int (nI n), .ref tA, .int (nI us), .ref bA, .ref eA, .ref zA, .int en, .ref wA, .int (nI lf), .ref pA, .int (nI dp), .int (nI nx), .int (nI ou), .ref oA, .int (nI os), .int (nI fi), .int (nI me), .int pu, .int (nI de), .int (nI u.1), .int u.2, .int (nI k), .long num])), (bA, .inl (cI, 26, .inl (aN bg))), (eA, .inl (cI, 26, .inl (aN ed))), (zA, .inl (cZ, 26, .inl (aN hs))), (pA, .inl (cZ, 26, .inl (aN opn)))]) := by
  refine Mi.intro (by decide) (Nat.le_of_ble_eq_true rfl) ?_
  intro p e s m args below meth cd A ls R Q hR hQ C Z hl
  have hl : lv_has ls 5 [(0, .ref mA), (1, .int (nI x)), (2, .int (nI q))] := hl
  have hz : hs k ≤ 1 := by omega
  refine lv_aload_n C.1 C.2.1 d_Model_enter_0 rfl (lv_at hl 0 rfl) ?_
  refine r_get C Z 0 f_Model_22 rfl rfl d_Model_enter_1 ?_
  refine lv_aload_n C.1 C.2.1 d_Model_enter_4 rfl (lv_at hl 0 rfl) ?_
  refine r_get C Z 0 f_Model_67 rfl rfl d_Model_enter_5 ?_
  refine r_zldN C Z 3 rfl (by omega) (by decide) d_Model_enter_8 ?_
  refine r_zeq (tgt := 34) C d_Model_enter_9 (by decide) (by omega) (fun h9 => ?_) (fun h9 => ?_)
  · skip
    refine lv_iconst (v := nI 0) C.1 C.2.1 d_Model_enter_34 (by decide) ?_
    refine lv_istore_n (lv' := [(3, .int (nI 0)), (0, .ref mA), (1, .int (nI x)), (2, .int (nI q))]) C.1 C.2.1 d_Model_enter_35 rfl hl (by decide) rfl (fun ls hl => ?_)
    refine lv_aload_n C.1 C.2.1 d_Model_enter_36 rfl (lv_at hl 1 rfl) ?_
    refine r_get C Z 0 f_Model_22 rfl rfl d_Model_enter_37 ?_
    refine lv_aload_n C.1 C.2.1 d_Model_enter_40 rfl (lv_at hl 1 rfl) ?_
    refine r_get C Z 0 f_Model_67 rfl rfl d_Model_enter_41 ?_
    refine r_zldN C Z 3 rfl (by omega) (by decide) d_Model_enter_44 ?_
    refine r_zne (tgt := 55) C d_Model_enter_45 (by decide) (by omega) (fun h45 => ?_) (fun h45 => ?_)
    · skip
      refine lv_aload_n C.1 C.2.1 d_Model_enter_55 rfl (lv_at hl 1 rfl) ?_
      refine r_get C Z 0 f_Model_29 rfl rfl d_Model_enter_56 ?_
      refine lv_aload_n C.1 C.2.1 d_Model_enter_59 rfl (lv_at hl 1 rfl) ?_
      refine r_get C Z 0 f_Model_67 rfl rfl d_Model_enter_60 ?_
      refine r_zldN C Z 4 rfl (by omega) (by decide) d_Model_enter_63 ?_
      refine r_zeq (tgt := 75) C d_Model_enter_64 (by decide) (by omega) (fun h64 => ?_) (fun h64 => ?_)
      · skip
        refine lv_aload_n C.1 C.2.1 d_Model_enter_75 rfl (lv_at hl 1 rfl) ?_
        refine r_get C Z 0 f_Model_47 rfl rfl d_Model_enter_76 ?_
        refine lv_bipush (v := nI 12) C.1 C.2.1 d_Model_enter_79 (by decide) ?_
        refine r_ne (tgt := 92) C d_Model_enter_81 (by decide) (by omega) (by omega) (fun h81 => ?_) (fun h81 => ?_)
        · skip
          refine lv_aload_n C.1 C.2.1 d_Model_enter_92 rfl (lv_at hl 1 rfl) ?_
          refine r_get C Z 0 f_Model_108 rfl rfl d_Model_enter_93 ?_
          refine lv_iload_n C.1 C.2.1 d_Model_enter_96 rfl (lv_at hl 0 rfl) ?_
          refine r_add C d_Model_enter_97 ?_
          refine lv_iload_n C.1 C.2.1 d_Model_enter_98 rfl (lv_at hl 3 rfl) ?_
          refine r_le (tgt := 110) C d_Model_enter_99 (by decide) (by omega) (by omega) (fun h99 => ?_) (fun h99 => ?_)
          · skip
            exact (hf (by unfold fltE; (repeat' split) <;> omega)).elim
          · skip
            refine lv_aload_n C.1 C.2.1 d_Model_enter_102 rfl (lv_at hl 1 rfl) ?_
            refine lv_bipush (v := nI 14) C.1 C.2.1 d_Model_enter_103 (by decide) ?_
            refine lv_iload_n C.1 C.2.1 d_Model_enter_105 rfl (lv_at hl 2 rfl) ?_
            refine r_callVi (rest := []) (wr := [(bA, .inl (cI, 26, .inl (aN bg))), (eA, .inl (cI, 26, .inl (aN ed))), (zA, .inl (cZ, 26, .inl (aN hs))), (pA, .inl (cZ, 26, .inl (aN opn)))]) (wn := fun u => [(mA, .inr (3, [.ref ha, .int (nI n), .ref tA, .int (nI us), .ref bA, .ref eA, .ref zA, .int en, .ref wA, .int (nI lf), .ref pA, .int (nI dp), .int (nI nx), .int (nI ou), .ref oA, .int (nI os), .int (nI fi), .int (nI me), .int pu, .int (nI de), .int (nI u.1), .int u.2, .int (nI k), .long num])), (bA, .inl (cI, 26, .inl (aN bg))), (eA, .inl (cI, 26, .inl (aN ed))), (zA, .inl (cZ, 26, .inl (aN hs))), (pA, .inl (cZ, 26, .inl (aN opn)))]) C Z (c_Model_fail l D cI cZ mA ha tA bA eA zA wA pA oA n us en lf dp nx ou os fi me pu de fa pl (nI k) num 14 (nI x) (by first | assumption | omega)) k_Model_63 rfl ⟨by rw [hR]; decide, by rw [hR]; decide⟩ ⟨rfl, rfl⟩ [0] [1, 2, 3, 4] [4, 0, 1, 2, 3] (by decide) rfl rfl (by decide) (by decide) (by decide) (fun _ => rfl) 0 rfl rfl hl.1 rfl (Nat.le_of_ble_eq_true rfl) d_Model_enter_106 ⟨Nat.zero_le _, Nat.zero_le _⟩ (fun r u H locs hp Z => ?_)
            obtain ⟨hp1, hp2⟩ := hp; have hp1 := hp1.symm; have hp2 := hp2.symm; subst hp1; subst hp2
            have Z : Wd D A s.heap [(mA, .inr (3, [.ref ha, .int (nI n), .ref tA, .int (nI us), .ref bA, .ref eA, .ref zA, .int en, .ref wA, .int (nI lf), .ref pA, .int (nI dp), .int (nI nx), .int (nI ou), .ref oA, .int (nI os), .int (nI fi), .int (nI me), .int pu, .int (nI de), .int (nI 14), .int (plP dp ou (nI x)), .int (nI k), .long num])), (bA, .inl (cI, 26, .inl (aN bg))), (eA, .inl (cI, 26, .inl (aN ed))), (zA, .inl (cZ, 26, .inl (aN hs))), (pA, .inl (cZ, 26, .inl (aN opn)))] H locs := Z
            exact r_iret C Z (14, plP dp ou (nI x)) (by clear C Z hl; refine ⟨rfl, ?_⟩; congr 1; unfold fltE; (repeat' split) <;> omega) rfl hQ d_Model_enter_109
        · skip
          refine lv_aload_n C.1 C.2.1 d_Model_enter_84 rfl (lv_at hl 1 rfl) ?_
          refine lv_bipush (v := nI 15) C.1 C.2.1 d_Model_enter_85 (by decide) ?_
          refine lv_iload_n C.1 C.2.1 d_Model_enter_87 rfl (lv_at hl 2 rfl) ?_
          refine r_callVi (rest := []) (wr := [(bA, .inl (cI, 26, .inl (aN bg))), (eA, .inl (cI, 26, .inl (aN ed))), (zA, .inl (cZ, 26, .inl (aN hs))), (pA, .inl (cZ, 26, .inl (aN opn)))]) (wn := fun u => [(mA, .inr (3, [.ref ha, .int (nI n), .ref tA, .int (nI us), .ref bA, .ref eA, .ref zA, .int en, .ref wA, .int (nI lf), .ref pA, .int (nI dp), .int (nI nx), .int (nI ou), .ref oA, .int (nI os), .int (nI fi), .int (nI me), .int pu, .int (nI de), .int (nI u.1), .int u.2, .int (nI k), .long num])), (bA, .inl (cI, 26, .inl (aN bg))), (eA, .inl (cI, 26, .inl (aN ed))), (zA, .inl (cZ, 26, .inl (aN hs))), (pA, .inl (cZ, 26, .inl (aN opn)))]) C Z (c_Model_fail l D cI cZ mA ha tA bA eA zA wA pA oA n us en lf dp nx ou os fi me pu de fa pl (nI k) num 15 (nI x) (by first | assumption | omega)) k_Model_63 rfl ⟨by rw [hR]; decide, by rw [hR]; decide⟩ ⟨rfl, rfl⟩ [0] [1, 2, 3, 4] [4, 0, 1, 2, 3] (by decide) rfl rfl (by decide) (by decide) (by decide) (fun _ => rfl) 0 rfl rfl hl.1 rfl (Nat.le_of_ble_eq_true rfl) d_Model_enter_88 ⟨Nat.zero_le _, Nat.zero_le _⟩ (fun r u H locs hp Z => ?_)
          obtain ⟨hp1, hp2⟩ := hp; have hp1 := hp1.symm; have hp2 := hp2.symm; subst hp1; subst hp2
          have Z : Wd D A s.heap [(mA, .inr (3, [.ref ha, .int (nI n), .ref tA, .int (nI us), .ref bA, .ref eA, .ref zA, .int en, .ref wA, .int (nI lf), .ref pA, .int (nI dp), .int (nI nx), .int (nI ou), .ref oA, .int (nI os), .int (nI fi), .int (nI me), .int pu, .int (nI de), .int (nI 15), .int (plP dp ou (nI x)), .int (nI k), .long num])), (bA, .inl (cI, 26, .inl (aN bg))), (eA, .inl (cI, 26, .inl (aN ed))), (zA, .inl (cZ, 26, .inl (aN hs))), (pA, .inl (cZ, 26, .inl (aN opn)))] H locs := Z
          exact r_iret C Z (15, plP dp ou (nI x)) (by clear C Z hl; refine ⟨rfl, ?_⟩; congr 1; unfold fltE; (repeat' split) <;> omega) rfl hQ d_Model_enter_91
      · skip
        refine lv_aload_n C.1 C.2.1 d_Model_enter_67 rfl (lv_at hl 1 rfl) ?_
        refine lv_bipush (v := nI 6) C.1 C.2.1 d_Model_enter_68 (by decide) ?_
        refine lv_iload_n C.1 C.2.1 d_Model_enter_70 rfl (lv_at hl 2 rfl) ?_
        refine r_callVi (rest := []) (wr := [(bA, .inl (cI, 26, .inl (aN bg))), (eA, .inl (cI, 26, .inl (aN ed))), (zA, .inl (cZ, 26, .inl (aN hs))), (pA, .inl (cZ, 26, .inl (aN opn)))]) (wn := fun u => [(mA, .inr (3, [.ref ha, .int (nI n), .ref tA, .int (nI us), .ref bA, .ref eA, .ref zA, .int en, .ref wA, .int (nI lf), .ref pA, .int (nI dp), .int (nI nx), .int (nI ou), .ref oA, .int (nI os), .int (nI fi), .int (nI me), .int pu, .int (nI de), .int (nI u.1), .int u.2, .int (nI k), .long num])), (bA, .inl (cI, 26, .inl (aN bg))), (eA, .inl (cI, 26, .inl (aN ed))), (zA, .inl (cZ, 26, .inl (aN hs))), (pA, .inl (cZ, 26, .inl (aN opn)))]) C Z (c_Model_fail l D cI cZ mA ha tA bA eA zA wA pA oA n us en lf dp nx ou os fi me pu de fa pl (nI k) num 6 (nI x) (by first | assumption | omega)) k_Model_63 rfl ⟨by rw [hR]; decide, by rw [hR]; decide⟩ ⟨rfl, rfl⟩ [0] [1, 2, 3, 4] [4, 0, 1, 2, 3] (by decide) rfl rfl (by decide) (by decide) (by decide) (fun _ => rfl) 0 rfl rfl hl.1 rfl (Nat.le_of_ble_eq_true rfl) d_Model_enter_71 ⟨Nat.zero_le _, Nat.zero_le _⟩ (fun r u H locs hp Z => ?_)
        obtain ⟨hp1, hp2⟩ := hp; have hp1 := hp1.symm; have hp2 := hp2.symm; subst hp1; subst hp2
        have Z : Wd D A s.heap [(mA, .inr (3, [.ref ha, .int (nI n), .ref tA, .int (nI us), .ref bA, .ref eA, .ref zA, .int en, .ref wA, .int (nI lf), .ref pA, .int (nI dp), .int (nI nx), .int (nI ou), .ref oA, .int (nI os), .int (nI fi), .int (nI me), .int pu, .int (nI de), .int (nI 6), .int (plP dp ou (nI x)), .int (nI k), .long num])), (bA, .inl (cI, 26, .inl (aN bg))), (eA, .inl (cI, 26, .inl (aN ed))), (zA, .inl (cZ, 26, .inl (aN hs))), (pA, .inl (cZ, 26, .inl (aN opn)))] H locs := Z
        exact r_iret C Z (6, plP dp ou (nI x)) (by clear C Z hl; refine ⟨rfl, ?_⟩; congr 1; unfold fltE; (repeat' split) <;> omega) rfl hQ d_Model_enter_74
    · skip
      refine lv_aload_n C.1 C.2.1 d_Model_enter_48 rfl (lv_at hl 1 rfl) ?_
      refine lv_iconst (v := nI 5) C.1 C.2.1 d_Model_enter_49 (by decide) ?_
      refine lv_iload_n C.1 C.2.1 d_Model_enter_50 rfl (lv_at hl 2 rfl) ?_
      refine r_callVi (rest := []) (wr := [(bA, .inl (cI, 26, .inl (aN bg))), (eA, .inl (cI, 26, .inl (aN ed))), (zA, .inl (cZ, 26, .inl (aN hs))), (pA, .inl (cZ, 26, .inl (aN opn)))]) (wn := fun u => [(mA, .inr (3, [.ref ha, .int (nI n), .ref tA, .int (nI us), .ref bA, .ref eA, .ref zA, .int en, .ref wA, .int (nI lf), .ref pA, .int (nI dp), .int (nI nx), .int (nI ou), .ref oA, .int (nI os), .int (nI fi), .int (nI me), .int pu, .int (nI de), .int (nI u.1), .int u.2, .int (nI k), .long num])), (bA, .inl (cI, 26, .inl (aN bg))), (eA, .inl (cI, 26, .inl (aN ed))), (zA, .inl (cZ, 26, .inl (aN hs))), (pA, .inl (cZ, 26, .inl (aN opn)))]) C Z (c_Model_fail l D cI cZ mA ha tA bA eA zA wA pA oA n us en lf dp nx ou os fi me pu de fa pl (nI k) num 5 (nI x) (by first | assumption | omega)) k_Model_63 rfl ⟨by rw [hR]; decide, by rw [hR]; decide⟩ ⟨rfl, rfl⟩ [0] [1, 2, 3, 4] [4, 0, 1, 2, 3] (by decide) rfl rfl (by decide) (by decide) (by decide) (fun _ => rfl) 0 rfl rfl hl.1 rfl (Nat.le_of_ble_eq_true rfl) d_Model_enter_51 ⟨Nat.zero_le _, Nat.zero_le _⟩ (fun r u H locs hp Z => ?_)
      obtain ⟨hp1, hp2⟩ := hp; have hp1 := hp1.symm; have hp2 := hp2.symm; subst hp1; subst hp2
      have Z : Wd D A s.heap [(mA, .inr (3, [.ref ha, .int (nI n), .ref tA, .int (nI us), .ref bA, .ref eA, .ref zA, .int en, .ref wA, .int (nI lf), .ref pA, .int (nI dp), .int (nI nx), .int (nI ou), .ref oA, .int (nI os), .int (nI fi), .int (nI me), .int pu, .int (nI de), .int (nI 5), .int (plP dp ou (nI x)), .int (nI k), .long num])), (bA, .inl (cI, 26, .inl (aN bg))), (eA, .inl (cI, 26, .inl (aN ed))), (zA, .inl (cZ, 26, .inl (aN hs))), (pA, .inl (cZ, 26, .inl (aN opn)))] H locs := Z
      exact r_iret C Z (5, plP dp ou (nI x)) (by clear C Z hl; refine ⟨rfl, ?_⟩; congr 1; unfold fltE; (repeat' split) <;> omega) rfl hQ d_Model_enter_54
  · skip
    obtain ⟨hd1, hd2⟩ := hed (by omega)
    refine lv_aload_n C.1 C.2.1 d_Model_enter_12 rfl (lv_at hl 0 rfl) ?_
    refine r_get C Z 0 f_Model_19 rfl rfl d_Model_enter_13 ?_
    refine lv_aload_n C.1 C.2.1 d_Model_enter_16 rfl (lv_at hl 0 rfl) ?_
    refine r_get C Z 0 f_Model_67 rfl rfl d_Model_enter_17 ?_
    refine r_ildN C Z 2 rfl (by omega) (by decide) d_Model_enter_20 ?_
    refine lv_aload_n C.1 C.2.1 d_Model_enter_21 rfl (lv_at hl 0 rfl) ?_
    refine r_get C Z 0 f_Model_16 rfl rfl d_Model_enter_22 ?_
    refine lv_aload_n C.1 C.2.1 d_Model_enter_25 rfl (lv_at hl 0 rfl) ?_
    refine r_get C Z 0 f_Model_67 rfl rfl d_Model_enter_26 ?_
    refine r_ildN C Z 1 rfl (by omega) (by decide) d_Model_enter_29 ?_
    refine r_sub C (by omega) d_Model_enter_30 ?_
    refine lv_goto (tgt := 35) C.1 C.2.1 d_Model_enter_31 (by decide) ?_
    refine lv_istore_n (lv' := [(3, .int (nI ((ed k) - (bg k)))), (0, .ref mA), (1, .int (nI x)), (2, .int (nI q))]) C.1 C.2.1 d_Model_enter_35 rfl hl (by decide) rfl (fun ls hl => ?_)
    refine lv_aload_n C.1 C.2.1 d_Model_enter_36 rfl (lv_at hl 1 rfl) ?_
    refine r_get C Z 0 f_Model_22 rfl rfl d_Model_enter_37 ?_
    refine lv_aload_n C.1 C.2.1 d_Model_enter_40 rfl (lv_at hl 1 rfl) ?_
    refine r_get C Z 0 f_Model_67 rfl rfl d_Model_enter_41 ?_
    refine r_zldN C Z 3 rfl (by omega) (by decide) d_Model_enter_44 ?_
    refine r_zne (tgt := 55) C d_Model_enter_45 (by decide) (by omega) (fun h45 => ?_) (fun h45 => ?_)
    · skip
      refine lv_aload_n C.1 C.2.1 d_Model_enter_55 rfl (lv_at hl 1 rfl) ?_
      refine r_get C Z 0 f_Model_29 rfl rfl d_Model_enter_56 ?_
      refine lv_aload_n C.1 C.2.1 d_Model_enter_59 rfl (lv_at hl 1 rfl) ?_
      refine r_get C Z 0 f_Model_67 rfl rfl d_Model_enter_60 ?_
      refine r_zldN C Z 4 rfl (by omega) (by decide) d_Model_enter_63 ?_
      refine r_zeq (tgt := 75) C d_Model_enter_64 (by decide) (by omega) (fun h64 => ?_) (fun h64 => ?_)
      · skip
        refine lv_aload_n C.1 C.2.1 d_Model_enter_75 rfl (lv_at hl 1 rfl) ?_
        refine r_get C Z 0 f_Model_47 rfl rfl d_Model_enter_76 ?_
        refine lv_bipush (v := nI 12) C.1 C.2.1 d_Model_enter_79 (by decide) ?_
        refine r_ne (tgt := 92) C d_Model_enter_81 (by decide) (by omega) (by omega) (fun h81 => ?_) (fun h81 => ?_)
        · skip
          refine lv_aload_n C.1 C.2.1 d_Model_enter_92 rfl (lv_at hl 1 rfl) ?_
          refine r_get C Z 0 f_Model_108 rfl rfl d_Model_enter_93 ?_
          refine lv_iload_n C.1 C.2.1 d_Model_enter_96 rfl (lv_at hl 0 rfl) ?_
          refine r_add C d_Model_enter_97 ?_
          refine lv_iload_n C.1 C.2.1 d_Model_enter_98 rfl (lv_at hl 3 rfl) ?_
          refine r_le (tgt := 110) C d_Model_enter_99 (by decide) (by omega) (by omega) (fun h99 => ?_) (fun h99 => ?_)
          · skip
            exact (hf (by unfold fltE; (repeat' split) <;> omega)).elim
          · skip
            refine lv_aload_n C.1 C.2.1 d_Model_enter_102 rfl (lv_at hl 1 rfl) ?_
            refine lv_bipush (v := nI 14) C.1 C.2.1 d_Model_enter_103 (by decide) ?_
            refine lv_iload_n C.1 C.2.1 d_Model_enter_105 rfl (lv_at hl 2 rfl) ?_
            refine r_callVi (rest := []) (wr := [(bA, .inl (cI, 26, .inl (aN bg))), (eA, .inl (cI, 26, .inl (aN ed))), (zA, .inl (cZ, 26, .inl (aN hs))), (pA, .inl (cZ, 26, .inl (aN opn)))]) (wn := fun u => [(mA, .inr (3, [.ref ha, .int (nI n), .ref tA, .int (nI us), .ref bA, .ref eA, .ref zA, .int en, .ref wA, .int (nI lf), .ref pA, .int (nI dp), .int (nI nx), .int (nI ou), .ref oA, .int (nI os), .int (nI fi), .int (nI me), .int pu, .int (nI de), .int (nI u.1), .int u.2, .int (nI k), .long num])), (bA, .inl (cI, 26, .inl (aN bg))), (eA, .inl (cI, 26, .inl (aN ed))), (zA, .inl (cZ, 26, .inl (aN hs))), (pA, .inl (cZ, 26, .inl (aN opn)))]) C Z (c_Model_fail l D cI cZ mA ha tA bA eA zA wA pA oA n us en lf dp nx ou os fi me pu de fa pl (nI k) num 14 (nI x) (by first | assumption | omega)) k_Model_63 rfl ⟨by rw [hR]; decide, by rw [hR]; decide⟩ ⟨rfl, rfl⟩ [0] [1, 2, 3, 4] [4, 0, 1, 2, 3] (by decide) rfl rfl (by decide) (by decide) (by decide) (fun _ => rfl) 0 rfl rfl hl.1 rfl (Nat.le_of_ble_eq_true rfl) d_Model_enter_106 ⟨Nat.zero_le _, Nat.zero_le _⟩ (fun r u H locs hp Z => ?_)
            obtain ⟨hp1, hp2⟩ := hp; have hp1 := hp1.symm; have hp2 := hp2.symm; subst hp1; subst hp2
            have Z : Wd D A s.heap [(mA, .inr (3, [.ref ha, .int (nI n), .ref tA, .int (nI us), .ref bA, .ref eA, .ref zA, .int en, .ref wA, .int (nI lf), .ref pA, .int (nI dp), .int (nI nx), .int (nI ou), .ref oA, .int (nI os), .int (nI fi), .int (nI me), .int pu, .int (nI de), .int (nI 14), .int (plP dp ou (nI x)), .int (nI k), .long num])), (bA, .inl (cI, 26, .inl (aN bg))), (eA, .inl (cI, 26, .inl (aN ed))), (zA, .inl (cZ, 26, .inl (aN hs))), (pA, .inl (cZ, 26, .inl (aN opn)))] H locs := Z
            exact r_iret C Z (14, plP dp ou (nI x)) (by clear C Z hl; refine ⟨rfl, ?_⟩; congr 1; unfold fltE; (repeat' split) <;> omega) rfl hQ d_Model_enter_109
        · skip
          refine lv_aload_n C.1 C.2.1 d_Model_enter_84 rfl (lv_at hl 1 rfl) ?_
          refine lv_bipush (v := nI 15) C.1 C.2.1 d_Model_enter_85 (by decide) ?_
          refine lv_iload_n C.1 C.2.1 d_Model_enter_87 rfl (lv_at hl 2 rfl) ?_
          refine r_callVi (rest := []) (wr := [(bA, .inl (cI, 26, .inl (aN bg))), (eA, .inl (cI, 26, .inl (aN ed))), (zA, .inl (cZ, 26, .inl (aN hs))), (pA, .inl (cZ, 26, .inl (aN opn)))]) (wn := fun u => [(mA, .inr (3, [.ref ha, .int (nI n), .ref tA, .int (nI us), .ref bA, .ref eA, .ref zA, .int en, .ref wA, .int (nI lf), .ref pA, .int (nI dp), .int (nI nx), .int (nI ou), .ref oA, .int (nI os), .int (nI fi), .int (nI me), .int pu, .int (nI de), .int (nI u.1), .int u.2, .int (nI k), .long num])), (bA, .inl (cI, 26, .inl (aN bg))), (eA, .inl (cI, 26, .inl (aN ed))), (zA, .inl (cZ, 26, .inl (aN hs))), (pA, .inl (cZ, 26, .inl (aN opn)))]) C Z (c_Model_fail l D cI cZ mA ha tA bA eA zA wA pA oA n us en lf dp nx ou os fi me pu de fa pl (nI k) num 15 (nI x) (by first | assumption | omega)) k_Model_63 rfl ⟨by rw [hR]; decide, by rw [hR]; decide⟩ ⟨rfl, rfl⟩ [0] [1, 2, 3, 4] [4, 0, 1, 2, 3] (by decide) rfl rfl (by decide) (by decide) (by decide) (fun _ => rfl) 0 rfl rfl hl.1 rfl (Nat.le_of_ble_eq_true rfl) d_Model_enter_88 ⟨Nat.zero_le _, Nat.zero_le _⟩ (fun r u H locs hp Z => ?_)
          obtain ⟨hp1, hp2⟩ := hp; have hp1 := hp1.symm; have hp2 := hp2.symm; subst hp1; subst hp2
          have Z : Wd D A s.heap [(mA, .inr (3, [.ref ha, .int (nI n), .ref tA, .int (nI us), .ref bA, .ref eA, .ref zA, .int en, .ref wA, .int (nI lf), .ref pA, .int (nI dp), .int (nI nx), .int (nI ou), .ref oA, .int (nI os), .int (nI fi), .int (nI me), .int pu, .int (nI de), .int (nI 15), .int (plP dp ou (nI x)), .int (nI k), .long num])), (bA, .inl (cI, 26, .inl (aN bg))), (eA, .inl (cI, 26, .inl (aN ed))), (zA, .inl (cZ, 26, .inl (aN hs))), (pA, .inl (cZ, 26, .inl (aN opn)))] H locs := Z
          exact r_iret C Z (15, plP dp ou (nI x)) (by clear C Z hl; refine ⟨rfl, ?_⟩; congr 1; unfold fltE; (repeat' split) <;> omega) rfl hQ d_Model_enter_91
      · skip
        refine lv_aload_n C.1 C.2.1 d_Model_enter_67 rfl (lv_at hl 1 rfl) ?_
        refine lv_bipush (v := nI 6) C.1 C.2.1 d_Model_enter_68 (by decide) ?_
        refine lv_iload_n C.1 C.2.1 d_Model_enter_70 rfl (lv_at hl 2 rfl) ?_
        refine r_callVi (rest := []) (wr := [(bA, .inl (cI, 26, .inl (aN bg))), (eA, .inl (cI, 26, .inl (aN ed))), (zA, .inl (cZ, 26, .inl (aN hs))), (pA, .inl (cZ, 26, .inl (aN opn)))]) (wn := fun u => [(mA, .inr (3, [.ref ha, .int (nI n), .ref tA, .int (nI us), .ref bA, .ref eA, .ref zA, .int en, .ref wA, .int (nI lf), .ref pA, .int (nI dp), .int (nI nx), .int (nI ou), .ref oA, .int (nI os), .int (nI fi), .int (nI me), .int pu, .int (nI de), .int (nI u.1), .int u.2, .int (nI k), .long num])), (bA, .inl (cI, 26, .inl (aN bg))), (eA, .inl (cI, 26, .inl (aN ed))), (zA, .inl (cZ, 26, .inl (aN hs))), (pA, .inl (cZ, 26, .inl (aN opn)))]) C Z (c_Model_fail l D cI cZ mA ha tA bA eA zA wA pA oA n us en lf dp nx ou os fi me pu de fa pl (nI k) num 6 (nI x) (by first | assumption | omega)) k_Model_63 rfl ⟨by rw [hR]; decide, by rw [hR]; decide⟩ ⟨rfl, rfl⟩ [0] [1, 2, 3, 4] [4, 0, 1, 2, 3] (by decide) rfl rfl (by decide) (by decide) (by decide) (fun _ => rfl) 0 rfl rfl hl.1 rfl (Nat.le_of_ble_eq_true rfl) d_Model_enter_71 ⟨Nat.zero_le _, Nat.zero_le _⟩ (fun r u H locs hp Z => ?_)
        obtain ⟨hp1, hp2⟩ := hp; have hp1 := hp1.symm; have hp2 := hp2.symm; subst hp1; subst hp2
        have Z : Wd D A s.heap [(mA, .inr (3, [.ref ha, .int (nI n), .ref tA, .int (nI us), .ref bA, .ref eA, .ref zA, .int en, .ref wA, .int (nI lf), .ref pA, .int (nI dp), .int (nI nx), .int (nI ou), .ref oA, .int (nI os), .int (nI fi), .int (nI me), .int pu, .int (nI de), .int (nI 6), .int (plP dp ou (nI x)), .int (nI k), .long num])), (bA, .inl (cI, 26, .inl (aN bg))), (eA, .inl (cI, 26, .inl (aN ed))), (zA, .inl (cZ, 26, .inl (aN hs))), (pA, .inl (cZ, 26, .inl (aN opn)))] H locs := Z
        exact r_iret C Z (6, plP dp ou (nI x)) (by clear C Z hl; refine ⟨rfl, ?_⟩; congr 1; unfold fltE; (repeat' split) <;> omega) rfl hQ d_Model_enter_74
    · skip
      refine lv_aload_n C.1 C.2.1 d_Model_enter_48 rfl (lv_at hl 1 rfl) ?_
      refine lv_iconst (v := nI 5) C.1 C.2.1 d_Model_enter_49 (by decide) ?_
      refine lv_iload_n C.1 C.2.1 d_Model_enter_50 rfl (lv_at hl 2 rfl) ?_
      refine r_callVi (rest := []) (wr := [(bA, .inl (cI, 26, .inl (aN bg))), (eA, .inl (cI, 26, .inl (aN ed))), (zA, .inl (cZ, 26, .inl (aN hs))), (pA, .inl (cZ, 26, .inl (aN opn)))]) (wn := fun u => [(mA, .inr (3, [.ref ha, .int (nI n), .ref tA, .int (nI us), .ref bA, .ref eA, .ref zA, .int en, .ref wA, .int (nI lf), .ref pA, .int (nI dp), .int (nI nx), .int (nI ou), .ref oA, .int (nI os), .int (nI fi), .int (nI me), .int pu, .int (nI de), .int (nI u.1), .int u.2, .int (nI k), .long num])), (bA, .inl (cI, 26, .inl (aN bg))), (eA, .inl (cI, 26, .inl (aN ed))), (zA, .inl (cZ, 26, .inl (aN hs))), (pA, .inl (cZ, 26, .inl (aN opn)))]) C Z (c_Model_fail l D cI cZ mA ha tA bA eA zA wA pA oA n us en lf dp nx ou os fi me pu de fa pl (nI k) num 5 (nI x) (by first | assumption | omega)) k_Model_63 rfl ⟨by rw [hR]; decide, by rw [hR]; decide⟩ ⟨rfl, rfl⟩ [0] [1, 2, 3, 4] [4, 0, 1, 2, 3] (by decide) rfl rfl (by decide) (by decide) (by decide) (fun _ => rfl) 0 rfl rfl hl.1 rfl (Nat.le_of_ble_eq_true rfl) d_Model_enter_51 ⟨Nat.zero_le _, Nat.zero_le _⟩ (fun r u H locs hp Z => ?_)
      obtain ⟨hp1, hp2⟩ := hp; have hp1 := hp1.symm; have hp2 := hp2.symm; subst hp1; subst hp2
      have Z : Wd D A s.heap [(mA, .inr (3, [.ref ha, .int (nI n), .ref tA, .int (nI us), .ref bA, .ref eA, .ref zA, .int en, .ref wA, .int (nI lf), .ref pA, .int (nI dp), .int (nI nx), .int (nI ou), .ref oA, .int (nI os), .int (nI fi), .int (nI me), .int pu, .int (nI de), .int (nI 5), .int (plP dp ou (nI x)), .int (nI k), .long num])), (bA, .inl (cI, 26, .inl (aN bg))), (eA, .inl (cI, 26, .inl (aN ed))), (zA, .inl (cZ, 26, .inl (aN hs))), (pA, .inl (cZ, 26, .inl (aN opn)))] H locs := Z
      exact r_iret C Z (5, plP dp ou (nI x)) (by clear C Z hl; refine ⟨rfl, ?_⟩; congr 1; unfold fltE; (repeat' split) <;> omega) rfl hQ d_Model_enter_54

set_option maxHeartbeats 4000000 in
set_option maxRecDepth 100000 in
theorem c_Model_enter (l : Launch) (D : va_G) (cI cZ : ClassId) (mA ha tA bA eA zA wA pA oA : Nat) (n : Nat) (us : Nat) (en : Int32) (lf : Nat) (dp : Nat) (nx : Nat) (ou : Nat) (os : Nat) (fi : Nat) (me : Nat) (pu : Int32) (de : Nat) (fa : Nat) (pl : Int32) (num : Int64) (tx : Nat → Nat) (bg : Nat → Nat) (ed : Nat → Nat) (hs : Nat → Nat) (opn : Nat → Nat) (ln : Nat → Nat) (k : Nat) (x : Nat) (q : Nat) (rw : Nat → Int32) (stk : List Nat) (hk : k < 26) (hhs : hs k = min (ln k) 1) (hed : ln k ≠ 0 → ed k = bg k + (ln k - 1) ∧ ed k ≤ 2000) (hln : ln k ≤ 2001) (hop : opn k ≤ 1) (hdp : dp ≤ 12) (hme : me ≤ 100000) (hq : q ≤ 100000) (hf : fltE (ln k) (opn k) (dp + 1) me q = 0) (hrow : Row rw stk) (hlf : lf = stk.length) (hl26 : lf + (ln k - 1) + 1 ≤ 2600) (hde : de ≤ 12) (htx : ∀ j, tx j < 256) : Mi l y_Model_enter b_Model_enter 5 (some .int) ({ frames := 0, cells := 0, slots := 0, locals := 0 } : Room) D cI cZ [.ref mA, .int (nI x), .int (nI q)] [(mA, .inr (3, [.ref ha, .int (nI n), .ref tA, .int (nI us), .ref bA, .ref eA, .ref zA, .int en, .ref wA, .int (nI lf), .ref pA, .int (nI dp), .int (nI nx), .int (nI ou), .ref oA, .int (nI os), .int (nI fi), .int (nI me), .int pu, .int (nI de), .int (nI fa), .int pl, .int (nI k), .long num])), (tA, .inl (cI, 2000, .inl (aN tx))), (bA, .inl (cI, 26, .inl (aN bg))), (eA, .inl (cI, 26, .inl (aN ed))), (zA, .inl (cZ, 26, .inl (aN hs))), (wA, .inl (cI, 2600, .inl rw)), (pA, .inl (cZ, 26, .inl (aN opn)))] (fun (r : Int32) (u : Nat → Int32) => r = nI 0 ∧ Row u (seg tx (bg k) (ln k - 1) ++ (256 + k) :: stk)) (fun u : Nat → Int32 => [(mA, .inr (3, [.ref ha, .int (nI n), .ref tA, .int (nI us), .ref bA, .ref eA, .ref zA, .int en, .ref wA, .int (nI (lf + 1 + (ln k - 1))), .ref pA, .int (nI (dp + 1)), .int (nI nx), .int (nI (if dp = 0 then x else ou)), .ref oA, .int (nI os), .int (nI fi), .int (nI (me + (ln k - 1))), .int (pu + nI 1), .int (nI (max de (dp + 1))), .int (nI fa), .int pl, .int (nI k), .long num])), (tA, .inl (cI, 2000, .inl (aN tx))), (bA, .inl (cI, 26, .inl (aN bg))), (eA, .inl (cI, 26, .inl (aN ed))), (zA, .inl (cZ, 26, .inl (aN hs))), (wA, .inl (cI, 2600, .inl u)), (pA, .inl (cZ, 26, .inl (aN (updN opn k 1))))]) := by
  refine Mi.intro (by decide) (Nat.le_of_ble_eq_true rfl) ?_
  intro p e s m args below meth cd A ls R Q hR hQ C Z hl
  have hl : lv_has ls 5 [(0, .ref mA), (1, .int (nI x)), (2, .int (nI q))] := hl
  obtain ⟨q1, q2, q3, q4⟩ := fltE_0 hf
  obtain ⟨hd1, hd2⟩ := hed q1
  have hz : hs k = 1 := by omega
  have hsl : ((256 + k) :: stk).length = stk.length + 1 := rfl
  refine lv_aload_n C.1 C.2.1 d_Model_enter_0 rfl (lv_at hl 0 rfl) ?_
  refine r_get C Z 0 f_Model_22 rfl rfl d_Model_enter_1 ?_
  refine lv_aload_n C.1 C.2.1 d_Model_enter_4 rfl (lv_at hl 0 rfl) ?_
  refine r_get C Z 0 f_Model_67 rfl rfl d_Model_enter_5 ?_
  refine r_zldN C Z 4 rfl (by omega) (by decide) d_Model_enter_8 ?_
  refine r_zeq (tgt := 34) C d_Model_enter_9 (by decide) (by omega) (fun h9 => (by omega : False).elim) (fun h9 => ?_)
  refine lv_aload_n C.1 C.2.1 d_Model_enter_12 rfl (lv_at hl 0 rfl) ?_
  refine r_get C Z 0 f_Model_19 rfl rfl d_Model_enter_13 ?_
  refine lv_aload_n C.1 C.2.1 d_Model_enter_16 rfl (lv_at hl 0 rfl) ?_
  refine r_get C Z 0 f_Model_67 rfl rfl d_Model_enter_17 ?_
  refine r_ildN C Z 3 rfl (by omega) (by decide) d_Model_enter_20 ?_
  refine lv_aload_n C.1 C.2.1 d_Model_enter_21 rfl (lv_at hl 0 rfl) ?_
  refine r_get C Z 0 f_Model_16 rfl rfl d_Model_enter_22 ?_
  refine lv_aload_n C.1 C.2.1 d_Model_enter_25 rfl (lv_at hl 0 rfl) ?_
  refine r_get C Z 0 f_Model_67 rfl rfl d_Model_enter_26 ?_
  refine r_ildN C Z 2 rfl (by omega) (by decide) d_Model_enter_29 ?_
  refine r_sub C (by omega) d_Model_enter_30 ?_
  refine lv_goto (tgt := 35) C.1 C.2.1 d_Model_enter_31 (by decide) ?_
  refine lv_istore_n (lv' := [(3, .int (nI ((ed k) - (bg k)))), (0, .ref mA), (1, .int (nI x)), (2, .int (nI q))]) C.1 C.2.1 d_Model_enter_35 rfl hl (by decide) rfl (fun ls hl => ?_)
  rw [show ed k - bg k = ln k - 1 by omega] at hl
  refine lv_aload_n C.1 C.2.1 d_Model_enter_36 rfl (lv_at hl 1 rfl) ?_
  refine r_get C Z 0 f_Model_22 rfl rfl d_Model_enter_37 ?_
  refine lv_aload_n C.1 C.2.1 d_Model_enter_40 rfl (lv_at hl 1 rfl) ?_
  refine r_get C Z 0 f_Model_67 rfl rfl d_Model_enter_41 ?_
  refine r_zldN C Z 4 rfl (by omega) (by decide) d_Model_enter_44 ?_
  refine r_zne (tgt := 55) C d_Model_enter_45 (by decide) (by omega) (fun h45 => ?_) (fun h45 => (by omega : False).elim)
  refine lv_aload_n C.1 C.2.1 d_Model_enter_55 rfl (lv_at hl 1 rfl) ?_
  refine r_get C Z 0 f_Model_29 rfl rfl d_Model_enter_56 ?_
  refine lv_aload_n C.1 C.2.1 d_Model_enter_59 rfl (lv_at hl 1 rfl) ?_
  refine r_get C Z 0 f_Model_67 rfl rfl d_Model_enter_60 ?_
  refine r_zldN C Z 6 rfl (by omega) (by decide) d_Model_enter_63 ?_
  refine r_zeq (tgt := 75) C d_Model_enter_64 (by decide) (by omega) (fun h64 => ?_) (fun h64 => (by omega : False).elim)
  refine lv_aload_n C.1 C.2.1 d_Model_enter_75 rfl (lv_at hl 1 rfl) ?_
  refine r_get C Z 0 f_Model_47 rfl rfl d_Model_enter_76 ?_
  refine lv_bipush (v := nI 12) C.1 C.2.1 d_Model_enter_79 (by decide) ?_
  refine r_ne (tgt := 92) C d_Model_enter_81 (by decide) (by omega) (by omega) (fun h81 => ?_) (fun h81 => (by omega : False).elim)
  refine lv_aload_n C.1 C.2.1 d_Model_enter_92 rfl (lv_at hl 1 rfl) ?_
  refine r_get C Z 0 f_Model_108 rfl rfl d_Model_enter_93 ?_
  refine lv_iload_n C.1 C.2.1 d_Model_enter_96 rfl (lv_at hl 0 rfl) ?_
  refine r_add C d_Model_enter_97 ?_
  refine lv_iload_n C.1 C.2.1 d_Model_enter_98 rfl (lv_at hl 3 rfl) ?_
  refine r_le (tgt := 110) C d_Model_enter_99 (by decide) (by omega) (by omega) (fun h99 => ?_) (fun h99 => (by omega : False).elim)
  refine lv_aload_n C.1 C.2.1 d_Model_enter_110 rfl (lv_at hl 1 rfl) ?_
  refine lv_aload_n C.1 C.2.1 d_Model_enter_111 rfl (lv_at hl 1 rfl) ?_
  refine r_get C Z 0 f_Model_108 rfl rfl d_Model_enter_112 ?_
  refine lv_iload_n C.1 C.2.1 d_Model_enter_115 rfl (lv_at hl 0 rfl) ?_
  refine r_add C d_Model_enter_116 ?_
  refine r_put (ws' := [(mA, .inr (3, [.ref ha, .int (nI n), .ref tA, .int (nI us), .ref bA, .ref eA, .ref zA, .int en, .ref wA, .int (nI lf), .ref pA, .int (nI dp), .int (nI nx), .int (nI ou), .ref oA, .int (nI os), .int (nI fi), .int (nI (me + (ln k - 1))), .int pu, .int (nI de), .int (nI fa), .int pl, .int (nI k), .long num])), (tA, .inl (cI, 2000, .inl (aN tx))), (bA, .inl (cI, 26, .inl (aN bg))), (eA, .inl (cI, 26, .inl (aN ed))), (zA, .inl (cZ, 26, .inl (aN hs))), (wA, .inl (cI, 2600, .inl rw)), (pA, .inl (cZ, 26, .inl (aN opn)))]) C Z 0 f_Model_108 rfl rfl rfl (Nat.le_of_ble_eq_true rfl) rfl d_Model_enter_117 (fun H locs Z => ?_)
  refine lv_aload_n C.1 C.2.1 d_Model_enter_120 rfl (lv_at hl 1 rfl) ?_
  refine lv_aload_n C.1 C.2.1 d_Model_enter_121 rfl (lv_at hl 1 rfl) ?_
  refine r_get C Z 0 f_Model_111 rfl rfl d_Model_enter_122 ?_
  refine lv_iconst (v := nI 1) C.1 C.2.1 d_Model_enter_125 (by decide) ?_
  refine lv_iadd C.1 C.2.1 d_Model_enter_126 ?_
  refine r_put (ws' := [(mA, .inr (3, [.ref ha, .int (nI n), .ref tA, .int (nI us), .ref bA, .ref eA, .ref zA, .int en, .ref wA, .int (nI lf), .ref pA, .int (nI dp), .int (nI nx), .int (nI ou), .ref oA, .int (nI os), .int (nI fi), .int (nI (me + (ln k - 1))), .int (pu + nI 1), .int (nI de), .int (nI fa), .int pl, .int (nI k), .long num])), (tA, .inl (cI, 2000, .inl (aN tx))), (bA, .inl (cI, 26, .inl (aN bg))), (eA, .inl (cI, 26, .inl (aN ed))), (zA, .inl (cZ, 26, .inl (aN hs))), (wA, .inl (cI, 2600, .inl rw)), (pA, .inl (cZ, 26, .inl (aN opn)))]) C Z 0 f_Model_111 rfl rfl rfl (Nat.le_of_ble_eq_true rfl) rfl d_Model_enter_127 (fun H locs Z => ?_)
  have join142 : ∀ (H : Heap) (locs : List Loc) (ls : Array Slot), Wd D A s.heap [(mA, .inr (3, [.ref ha, .int (nI n), .ref tA, .int (nI us), .ref bA, .ref eA, .ref zA, .int en, .ref wA, .int (nI lf), .ref pA, .int (nI dp), .int (nI nx), .int (nI (if dp = 0 then x else ou)), .ref oA, .int (nI os), .int (nI fi), .int (nI (me + (ln k - 1))), .int (pu + nI 1), .int (nI de), .int (nI fa), .int pl, .int (nI k), .long num])), (tA, .inl (cI, 2000, .inl (aN tx))), (bA, .inl (cI, 26, .inl (aN bg))), (eA, .inl (cI, 26, .inl (aN ed))), (zA, .inl (cZ, 26, .inl (aN hs))), (wA, .inl (cI, 2600, .inl rw)), (pA, .inl (cZ, 26, .inl (aN opn)))] H locs → lv_has ls 5 [(3, .int (nI (ln k - 1))), (0, .ref mA), (1, .int (nI x)), (2, .int (nI q))] → W p l e R s m args below meth cd H locs 0 0 Q (F0 m 142 ls []) := by
    intro H locs ls Z hl
    refine lv_aload_n C.1 C.2.1 d_Model_enter_142 rfl (lv_at hl 1 rfl) ?_
    refine lv_aload_n C.1 C.2.1 d_Model_enter_143 rfl (lv_at hl 1 rfl) ?_
    refine r_get C Z 0 f_Model_47 rfl rfl d_Model_enter_144 ?_
    refine lv_iconst (v := nI 1) C.1 C.2.1 d_Model_enter_147 (by decide) ?_
    refine r_add C d_Model_enter_148 ?_
    refine r_put (ws' := [(mA, .inr (3, [.ref ha, .int (nI n), .ref tA, .int (nI us), .ref bA, .ref eA, .ref zA, .int en, .ref wA, .int (nI lf), .ref pA, .int (nI (dp + 1)), .int (nI nx), .int (nI (if dp = 0 then x else ou)), .ref oA, .int (nI os), .int (nI fi), .int (nI (me + (ln k - 1))), .int (pu + nI 1), .int (nI de), .int (nI fa), .int pl, .int (nI k), .long num])), (tA, .inl (cI, 2000, .inl (aN tx))), (bA, .inl (cI, 26, .inl (aN bg))), (eA, .inl (cI, 26, .inl (aN ed))), (zA, .inl (cZ, 26, .inl (aN hs))), (wA, .inl (cI, 2600, .inl rw)), (pA, .inl (cZ, 26, .inl (aN opn)))]) C Z 0 f_Model_47 rfl rfl rfl (Nat.le_of_ble_eq_true rfl) rfl d_Model_enter_149 (fun H locs Z => ?_)
    have join175 : ∀ (H : Heap) (locs : List Loc) (ls : Array Slot), Wd D A s.heap [(mA, .inr (3, [.ref ha, .int (nI n), .ref tA, .int (nI us), .ref bA, .ref eA, .ref zA, .int en, .ref wA, .int (nI lf), .ref pA, .int (nI (dp + 1)), .int (nI nx), .int (nI (if dp = 0 then x else ou)), .ref oA, .int (nI os), .int (nI fi), .int (nI (me + (ln k - 1))), .int (pu + nI 1), .int (nI de), .int (nI fa), .int pl, .int (nI k), .long num])), (tA, .inl (cI, 2000, .inl (aN tx))), (bA, .inl (cI, 26, .inl (aN bg))), (eA, .inl (cI, 26, .inl (aN ed))), (zA, .inl (cZ, 26, .inl (aN hs))), (wA, .inl (cI, 2600, .inl rw)), (pA, .inl (cZ, 26, .inl (aN opn)))] H locs → lv_has ls 5 [(3, .int (nI (ln k - 1))), (0, .ref mA), (1, .int (nI x)), (2, .int (nI q))] → W p l e R s m args below meth cd H locs 0 0 Q (F0 m 175 ls [.int (nI (max de (dp + 1))), .ref mA]) := by
      intro H locs ls Z hl
      refine r_put (ws' := [(mA, .inr (3, [.ref ha, .int (nI n), .ref tA, .int (nI us), .ref bA, .ref eA, .ref zA, .int en, .ref wA, .int (nI lf), .ref pA, .int (nI (dp + 1)), .int (nI nx), .int (nI (if dp = 0 then x else ou)), .ref oA, .int (nI os), .int (nI fi), .int (nI (me + (ln k - 1))), .int (pu + nI 1), .int (nI (max de (dp + 1))), .int (nI fa), .int pl, .int (nI k), .long num])), (tA, .inl (cI, 2000, .inl (aN tx))), (bA, .inl (cI, 26, .inl (aN bg))), (eA, .inl (cI, 26, .inl (aN ed))), (zA, .inl (cZ, 26, .inl (aN hs))), (wA, .inl (cI, 2600, .inl rw)), (pA, .inl (cZ, 26, .inl (aN opn)))]) C Z 0 f_Model_114 rfl rfl rfl (Nat.le_of_ble_eq_true rfl) rfl d_Model_enter_175 (fun H locs Z => ?_)
      refine lv_aload_n C.1 C.2.1 d_Model_enter_178 rfl (lv_at hl 1 rfl) ?_
      refine r_get C Z 0 f_Model_29 rfl rfl d_Model_enter_179 ?_
      refine lv_aload_n C.1 C.2.1 d_Model_enter_182 rfl (lv_at hl 1 rfl) ?_
      refine r_get C Z 0 f_Model_67 rfl rfl d_Model_enter_183 ?_
      refine lv_iconst (v := nI 1) C.1 C.2.1 d_Model_enter_186 (by decide) ?_
      refine r_zstN (ws' := [(mA, .inr (3, [.ref ha, .int (nI n), .ref tA, .int (nI us), .ref bA, .ref eA, .ref zA, .int en, .ref wA, .int (nI lf), .ref pA, .int (nI (dp + 1)), .int (nI nx), .int (nI (if dp = 0 then x else ou)), .ref oA, .int (nI os), .int (nI fi), .int (nI (me + (ln k - 1))), .int (pu + nI 1), .int (nI (max de (dp + 1))), .int (nI fa), .int pl, .int (nI k), .long num])), (tA, .inl (cI, 2000, .inl (aN tx))), (bA, .inl (cI, 26, .inl (aN bg))), (eA, .inl (cI, 26, .inl (aN ed))), (zA, .inl (cZ, 26, .inl (aN hs))), (wA, .inl (cI, 2600, .inl rw)), (pA, .inl (cZ, 26, .inl (aN (updN opn k 1))))]) C Z 6 rfl (by omega) (by decide) (by omega) rfl d_Model_enter_187 (fun H locs Z => ?_)
      refine lv_aload_n C.1 C.2.1 d_Model_enter_188 rfl (lv_at hl 1 rfl) ?_
      refine r_get C Z 0 f_Model_26 rfl rfl d_Model_enter_189 ?_
      refine lv_aload_n C.1 C.2.1 d_Model_enter_192 rfl (lv_at hl 1 rfl) ?_
      refine r_get C Z 0 f_Model_53 rfl rfl d_Model_enter_193 ?_
      refine lv_iconst (v := (-1)) C.1 C.2.1 d_Model_enter_196 (by decide) ?_
      refine lv_aload_n C.1 C.2.1 d_Model_enter_197 rfl (lv_at hl 1 rfl) ?_
      refine r_get C Z 0 f_Model_67 rfl rfl d_Model_enter_198 ?_
      refine lv_isub C.1 C.2.1 d_Model_enter_201 ?_
      refine r_ist (ws' := [(mA, .inr (3, [.ref ha, .int (nI n), .ref tA, .int (nI us), .ref bA, .ref eA, .ref zA, .int en, .ref wA, .int (nI lf), .ref pA, .int (nI (dp + 1)), .int (nI nx), .int (nI (if dp = 0 then x else ou)), .ref oA, .int (nI os), .int (nI fi), .int (nI (me + (ln k - 1))), .int (pu + nI 1), .int (nI (max de (dp + 1))), .int (nI fa), .int pl, .int (nI k), .long num])), (tA, .inl (cI, 2000, .inl (aN tx))), (bA, .inl (cI, 26, .inl (aN bg))), (eA, .inl (cI, 26, .inl (aN ed))), (zA, .inl (cZ, 26, .inl (aN hs))), (wA, .inl (cI, 2600, .inl (upd rw lf ((-1) - nI k)))), (pA, .inl (cZ, 26, .inl (aN (updN opn k 1))))]) C Z 5 rfl (by omega) (by decide) rfl rfl d_Model_enter_202 (fun H locs Z => ?_)
      refine lv_aload_n C.1 C.2.1 d_Model_enter_203 rfl (lv_at hl 1 rfl) ?_
      refine lv_aload_n C.1 C.2.1 d_Model_enter_204 rfl (lv_at hl 1 rfl) ?_
      refine r_get C Z 0 f_Model_53 rfl rfl d_Model_enter_205 ?_
      refine lv_iconst (v := nI 1) C.1 C.2.1 d_Model_enter_208 (by decide) ?_
      refine r_add C d_Model_enter_209 ?_
      refine r_put (ws' := [(mA, .inr (3, [.ref ha, .int (nI n), .ref tA, .int (nI us), .ref bA, .ref eA, .ref zA, .int en, .ref wA, .int (nI (lf + 1)), .ref pA, .int (nI (dp + 1)), .int (nI nx), .int (nI (if dp = 0 then x else ou)), .ref oA, .int (nI os), .int (nI fi), .int (nI (me + (ln k - 1))), .int (pu + nI 1), .int (nI (max de (dp + 1))), .int (nI fa), .int pl, .int (nI k), .long num])), (tA, .inl (cI, 2000, .inl (aN tx))), (bA, .inl (cI, 26, .inl (aN bg))), (eA, .inl (cI, 26, .inl (aN ed))), (zA, .inl (cZ, 26, .inl (aN hs))), (wA, .inl (cI, 2600, .inl (upd rw lf ((-1) - nI k)))), (pA, .inl (cZ, 26, .inl (aN (updN opn k 1))))]) C Z 0 f_Model_53 rfl rfl rfl (Nat.le_of_ble_eq_true rfl) rfl d_Model_enter_210 (fun H locs Z => ?_)
      refine lv_aload_n C.1 C.2.1 d_Model_enter_213 rfl (lv_at hl 1 rfl) ?_
      refine r_get C Z 0 f_Model_19 rfl rfl d_Model_enter_214 ?_
      refine lv_aload_n C.1 C.2.1 d_Model_enter_217 rfl (lv_at hl 1 rfl) ?_
      refine r_get C Z 0 f_Model_67 rfl rfl d_Model_enter_218 ?_
      refine r_ildN C Z 3 rfl (by omega) (by decide) d_Model_enter_221 ?_
      refine lv_iconst (v := nI 1) C.1 C.2.1 d_Model_enter_222 (by decide) ?_
      refine lv_isub C.1 C.2.1 d_Model_enter_223 ?_
      refine lv_istore (lv' := [(4, .int (nI (ed k) - nI 1)), (3, .int (nI (ln k - 1))), (0, .ref mA), (1, .int (nI x)), (2, .int (nI q))]) C.1 C.2.1 d_Model_enter_224 hl (by decide) rfl (fun ls hl => ?_)
      have loop : ∀ (r : Nat) (rw : Nat → Int32), r ≤ ln k - 1 → Row rw (seg tx (bg k + r) (ln k - 1 - r) ++ (256 + k) :: stk) → ∀ (H : Heap) (locs : List Loc) (ls : Array Slot), Wd D A s.heap [(mA, .inr (3, [.ref ha, .int (nI n), .ref tA, .int (nI us), .ref bA, .ref eA, .ref zA, .int en, .ref wA, .int (nI (lf + 1 + (ln k - 1 - r))), .ref pA, .int (nI (dp + 1)), .int (nI nx), .int (nI (if dp = 0 then x else ou)), .ref oA, .int (nI os), .int (nI fi), .int (nI (me + (ln k - 1))), .int (pu + nI 1), .int (nI (max de (dp + 1))), .int (nI fa), .int pl, .int (nI k), .long num])), (tA, .inl (cI, 2000, .inl (aN tx))), (bA, .inl (cI, 26, .inl (aN bg))), (eA, .inl (cI, 26, .inl (aN ed))), (zA, .inl (cZ, 26, .inl (aN hs))), (wA, .inl (cI, 2600, .inl rw)), (pA, .inl (cZ, 26, .inl (aN (updN opn k 1))))] H locs → lv_has ls 5 [(4, .int (nI (bg k + r) - 1)), (3, .int (nI (ln k - 1))), (0, .ref mA), (1, .int (nI x)), (2, .int (nI q))] → W p l e R s m args below meth cd H locs 0 0 Q (F0 m 226 ls []) := by
        clear hl Z
        intro r
        induction r with
        | zero =>
          intro rw hr hrow H locs ls Z hl
          have hlt : nI (bg k + 0) - 1 < nI (bg k) := lt_pred (by omega)
          have hrow : Row rw (seg tx (bg k) (ln k - 1) ++ (256 + k) :: stk) := hrow
          refine lv_iload C.1 C.2.1 d_Model_enter_226 (lv_at hl 0 rfl) ?_
          refine lv_aload_n C.1 C.2.1 d_Model_enter_228 rfl (lv_at hl 2 rfl) ?_
          refine r_get C Z 0 f_Model_16 rfl rfl d_Model_enter_229 ?_
          refine lv_aload_n C.1 C.2.1 d_Model_enter_232 rfl (lv_at hl 2 rfl) ?_
          refine r_get C Z 0 f_Model_67 rfl rfl d_Model_enter_233 ?_
          refine r_ildN C Z 2 rfl (by omega) (by decide) d_Model_enter_236 ?_
          refine lv_icmp_lt (tgt := 272) C.1 C.2.1 d_Model_enter_237 (by decide) (fun h237 => ?_) (fun h237 => absurd hlt h237)
          refine lv_iconst (v := nI 0) C.1 C.2.1 d_Model_enter_272 (by decide) ?_
          exact r_iret C Z rw ⟨rfl, hrow⟩ rfl hQ d_Model_enter_273
        | succ r ih =>
          intro rw hr hrow H locs ls Z hl
          rw [show bg k + (r + 1) = bg k + r + 1 by omega, nI_pred] at hl
          refine lv_iload C.1 C.2.1 d_Model_enter_226 (lv_at hl 0 rfl) ?_
          refine lv_aload_n C.1 C.2.1 d_Model_enter_228 rfl (lv_at hl 2 rfl) ?_
          refine r_get C Z 0 f_Model_16 rfl rfl d_Model_enter_229 ?_
          refine lv_aload_n C.1 C.2.1 d_Model_enter_232 rfl (lv_at hl 2 rfl) ?_
          refine r_get C Z 0 f_Model_67 rfl rfl d_Model_enter_233 ?_
          refine r_ildN C Z 2 rfl (by omega) (by decide) d_Model_enter_236 ?_
          refine r_lt (tgt := 272) C d_Model_enter_237 (by decide) (by omega) (by omega) (fun h237 => (by omega : False).elim) (fun h237 => ?_)
          refine lv_aload_n C.1 C.2.1 d_Model_enter_240 rfl (lv_at hl 2 rfl) ?_
          refine r_get C Z 0 f_Model_26 rfl rfl d_Model_enter_241 ?_
          refine lv_aload_n C.1 C.2.1 d_Model_enter_244 rfl (lv_at hl 2 rfl) ?_
          refine r_get C Z 0 f_Model_53 rfl rfl d_Model_enter_245 ?_
          refine lv_aload_n C.1 C.2.1 d_Model_enter_248 rfl (lv_at hl 2 rfl) ?_
          refine r_get C Z 0 f_Model_13 rfl rfl d_Model_enter_249 ?_
          refine lv_iload C.1 C.2.1 d_Model_enter_252 (lv_at hl 0 rfl) ?_
          refine r_ildN C Z 1 rfl (by omega) (by decide) d_Model_enter_254 ?_
          refine r_ist (ws' := [(mA, .inr (3, [.ref ha, .int (nI n), .ref tA, .int (nI us), .ref bA, .ref eA, .ref zA, .int en, .ref wA, .int (nI (lf + 1 + (ln k - 1 - (r + 1)))), .ref pA, .int (nI (dp + 1)), .int (nI nx), .int (nI (if dp = 0 then x else ou)), .ref oA, .int (nI os), .int (nI fi), .int (nI (me + (ln k - 1))), .int (pu + nI 1), .int (nI (max de (dp + 1))), .int (nI fa), .int pl, .int (nI k), .long num])), (tA, .inl (cI, 2000, .inl (aN tx))), (bA, .inl (cI, 26, .inl (aN bg))), (eA, .inl (cI, 26, .inl (aN ed))), (zA, .inl (cZ, 26, .inl (aN hs))), (wA, .inl (cI, 2600, .inl (upd rw (lf + 1 + (ln k - 1 - (r + 1))) (nI (tx (bg k + r)))))), (pA, .inl (cZ, 26, .inl (aN (updN opn k 1))))]) C Z 5 rfl (by omega) (by decide) rfl rfl d_Model_enter_255 (fun H locs Z => ?_)
          refine lv_aload_n C.1 C.2.1 d_Model_enter_256 rfl (lv_at hl 2 rfl) ?_
          refine lv_aload_n C.1 C.2.1 d_Model_enter_257 rfl (lv_at hl 2 rfl) ?_
          refine r_get C Z 0 f_Model_53 rfl rfl d_Model_enter_258 ?_
          refine lv_iconst (v := nI 1) C.1 C.2.1 d_Model_enter_261 (by decide) ?_
          refine r_add C d_Model_enter_262 ?_
          refine r_put (ws' := [(mA, .inr (3, [.ref ha, .int (nI n), .ref tA, .int (nI us), .ref bA, .ref eA, .ref zA, .int en, .ref wA, .int (nI ((lf + 1 + (ln k - 1 - (r + 1))) + 1)), .ref pA, .int (nI (dp + 1)), .int (nI nx), .int (nI (if dp = 0 then x else ou)), .ref oA, .int (nI os), .int (nI fi), .int (nI (me + (ln k - 1))), .int (pu + nI 1), .int (nI (max de (dp + 1))), .int (nI fa), .int pl, .int (nI k), .long num])), (tA, .inl (cI, 2000, .inl (aN tx))), (bA, .inl (cI, 26, .inl (aN bg))), (eA, .inl (cI, 26, .inl (aN ed))), (zA, .inl (cZ, 26, .inl (aN hs))), (wA, .inl (cI, 2600, .inl (upd rw (lf + 1 + (ln k - 1 - (r + 1))) (nI (tx (bg k + r)))))), (pA, .inl (cZ, 26, .inl (aN (updN opn k 1))))]) C Z 0 f_Model_53 rfl rfl rfl (Nat.le_of_ble_eq_true rfl) rfl d_Model_enter_263 (fun H locs Z => ?_)
          refine lv_iinc (v := nI (bg k + r) - 1) (lv' := [(4, .int (nI (bg k + r) - 1)), (3, .int (nI (ln k - 1))), (0, .ref mA), (1, .int (nI x)), (2, .int (nI q))]) C.1 C.2.1 d_Model_enter_266 hl (k := 0) rfl (r_dec1 _) (by decide) rfl (fun ls hl => ?_)
          refine lv_goto (tgt := 226) C.1 C.2.1 d_Model_enter_269 (by decide) ?_
          exact ih (upd rw (lf + 1 + (ln k - 1 - (r + 1))) (nI (tx (bg k + r)))) (by omega) (Row_down (by omega) (htx _) hrow (by omega)) _ _ _ (by rw [show lf + 1 + (ln k - 1 - r) = lf + 1 + (ln k - 1 - (r + 1)) + 1 by omega]; exact Z) hl
      exact loop (ln k - 1) (upd rw lf ((-1) - nI k)) (Nat.le_refl _) (by rw [Nat.sub_self, hlf]; exact Row_push (enc_k hk) hrow) _ _ _ (by rw [Nat.sub_self]; exact Z) (by rw [show ed k = bg k + (ln k - 1) by omega] at hl; exact hl)
    refine lv_aload_n C.1 C.2.1 d_Model_enter_152 rfl (lv_at hl 1 rfl) ?_
    refine lv_aload_n C.1 C.2.1 d_Model_enter_153 rfl (lv_at hl 1 rfl) ?_
    refine r_get C Z 0 f_Model_47 rfl rfl d_Model_enter_154 ?_
    refine lv_aload_n C.1 C.2.1 d_Model_enter_157 rfl (lv_at hl 1 rfl) ?_
    refine r_get C Z 0 f_Model_114 rfl rfl d_Model_enter_158 ?_
    refine r_le (tgt := 171) C d_Model_enter_161 (by decide) (by omega) (by omega) (fun h161 => ?_) (fun h161 => ?_)
    · skip
      refine lv_aload_n C.1 C.2.1 d_Model_enter_171 rfl (lv_at hl 1 rfl) ?_
      refine r_get C Z 0 f_Model_114 rfl rfl d_Model_enter_172 ?_
      rw [show de = max de (dp + 1) by omega]
      exact join175 _ _ _ Z hl
    · skip
      refine lv_aload_n C.1 C.2.1 d_Model_enter_164 rfl (lv_at hl 1 rfl) ?_
      refine r_get C Z 0 f_Model_47 rfl rfl d_Model_enter_165 ?_
      refine lv_goto (tgt := 175) C.1 C.2.1 d_Model_enter_168 (by decide) ?_
      rw [show dp + 1 = max de (dp + 1) by omega]
      exact join175 _ _ _ Z hl
  refine lv_aload_n C.1 C.2.1 d_Model_enter_130 rfl (lv_at hl 1 rfl) ?_
  refine r_get C Z 0 f_Model_47 rfl rfl d_Model_enter_131 ?_
  refine r_zne (tgt := 142) C d_Model_enter_134 (by decide) (by omega) (fun h134 => ?_) (fun h134 => ?_)
  · skip
    rw [show ou = (if dp = 0 then x else ou) by rw [if_neg h134]] at Z
    exact join142 _ _ _ Z hl
  · skip
    refine lv_aload_n C.1 C.2.1 d_Model_enter_137 rfl (lv_at hl 1 rfl) ?_
    refine lv_iload_n C.1 C.2.1 d_Model_enter_138 rfl (lv_at hl 2 rfl) ?_
    refine r_put (ws' := [(mA, .inr (3, [.ref ha, .int (nI n), .ref tA, .int (nI us), .ref bA, .ref eA, .ref zA, .int en, .ref wA, .int (nI lf), .ref pA, .int (nI dp), .int (nI nx), .int (nI x), .ref oA, .int (nI os), .int (nI fi), .int (nI (me + (ln k - 1))), .int (pu + nI 1), .int (nI de), .int (nI fa), .int pl, .int (nI k), .long num])), (tA, .inl (cI, 2000, .inl (aN tx))), (bA, .inl (cI, 26, .inl (aN bg))), (eA, .inl (cI, 26, .inl (aN ed))), (zA, .inl (cZ, 26, .inl (aN hs))), (wA, .inl (cI, 2600, .inl rw)), (pA, .inl (cZ, 26, .inl (aN opn)))]) C Z 0 f_Model_50 rfl rfl rfl (Nat.le_of_ble_eq_true rfl) rfl d_Model_enter_139 (fun H locs Z => ?_)
    rw [show x = (if dp = 0 then x else ou) by rw [if_pos h134]] at Z
    exact join142 _ _ _ Z hl
