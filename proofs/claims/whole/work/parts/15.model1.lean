set_option maxHeartbeats 4000000 in
set_option maxRecDepth 100000 in
theorem c_Model_putBad (l : Launch) (D : va_G) (cI cZ : ClassId) (mA ha tA bA eA zA wA pA oA : Nat) (n : Nat) (us : Nat) (en : Int32) (lf : Nat) (dp : Nat) (nx : Nat) (ou : Nat) (os : Nat) (fi : Nat) (me : Nat) (pu : Int32) (de : Nat) (fa : Nat) (pl : Int32) (na : Int32) (num : Int64) (v : Int64) (x : Int32) (hx : x < nI 1 ∨ nI 8 < x) : Mi l y_Model_put b_Model_put 5 (some .boolean) ({ frames := 0, cells := 0, slots := 0, locals := 0 } : Room) D cI cZ [.ref mA, .long v, .int x] [(mA, .inr (3, [.ref ha, .int (nI n), .ref tA, .int (nI us), .ref bA, .ref eA, .ref zA, .int en, .ref wA, .int (nI lf), .ref pA, .int (nI dp), .int (nI nx), .int (nI ou), .ref oA, .int (nI os), .int (nI fi), .int (nI me), .int pu, .int (nI de), .int (nI fa), .int pl, .int na, .long num]))] (fun (r : Int32) (u : Unit) => r = nI 0 ∧ u = ()) (fun u : Unit => [(mA, .inr (3, [.ref ha, .int (nI n), .ref tA, .int (nI us), .ref bA, .ref eA, .ref zA, .int en, .ref wA, .int (nI lf), .ref pA, .int (nI dp), .int (nI nx), .int (nI ou), .ref oA, .int (nI os), .int (nI fi), .int (nI me), .int pu, .int (nI de), .int (nI fa), .int pl, .int na, .long num]))]) := by
  refine Mi.intro (by decide) (Nat.le_of_ble_eq_true rfl) ?_
  intro p e s m args below meth cd A ls R Q hR hQ C Z hl
  have hl : lv_has ls 5 [(0, .ref mA), (1, .long v), (3, .int x)] := hl
  refine lv_iload_n C.1 C.2.1 d_Model_put_0 rfl (lv_at hl 2 rfl) ?_
  refine lv_iconst (v := nI 1) C.1 C.2.1 d_Model_put_1 (by decide) ?_
  refine lv_icmp_lt (tgt := 23) C.1 C.2.1 d_Model_put_2 (by decide) (fun h2 => ?_) (fun h2 => ?_)
  · skip
    refine lv_iconst (v := nI 0) C.1 C.2.1 d_Model_put_23 (by decide) ?_
    exact r_zret C Z (by omega) () (by first | exact ⟨rfl, rfl⟩ | (clear C Z hl; simp [h2]; done) | (clear C Z hl; grind)) rfl hQ d_Model_put_24
  · skip
    refine lv_iload_n C.1 C.2.1 d_Model_put_5 rfl (lv_at hl 2 rfl) ?_
    refine lv_bipush (v := nI 8) C.1 C.2.1 d_Model_put_6 (by decide) ?_
    refine lv_icmp_gt (tgt := 23) C.1 C.2.1 d_Model_put_8 (by decide) (fun h8 => ?_) (fun h8 => ?_)
    · skip
      refine lv_iconst (v := nI 0) C.1 C.2.1 d_Model_put_23 (by decide) ?_
      exact r_zret C Z (by omega) () (by first | exact ⟨rfl, rfl⟩ | (clear C Z hl; simp [h2, h8]; done) | (clear C Z hl; grind)) rfl hQ d_Model_put_24
    · skip
      exact (hx.elim (fun q => h2 q) (fun q => h8 q)).elim

set_option maxHeartbeats 4000000 in
set_option maxRecDepth 100000 in
theorem c_Model_putFull (l : Launch) (D : va_G) (cI cZ : ClassId) (mA ha tA bA eA zA wA pA oA : Nat) (n : Nat) (us : Nat) (en : Int32) (lf : Nat) (dp : Nat) (nx : Nat) (ou : Nat) (os : Nat) (fi : Nat) (me : Nat) (pu : Int32) (de : Nat) (fa : Nat) (pl : Int32) (na : Int32) (num : Int64) (v : Int64) (q : Nat) (hq : 1 ≤ q ∧ q ≤ 8) (hn : n ≤ 400) (hf : 400 < n + q) : Mi l y_Model_put b_Model_put 5 (some .boolean) ({ frames := 0, cells := 0, slots := 0, locals := 0 } : Room) D cI cZ [.ref mA, .long v, .int (nI q)] [(mA, .inr (3, [.ref ha, .int (nI n), .ref tA, .int (nI us), .ref bA, .ref eA, .ref zA, .int en, .ref wA, .int (nI lf), .ref pA, .int (nI dp), .int (nI nx), .int (nI ou), .ref oA, .int (nI os), .int (nI fi), .int (nI me), .int pu, .int (nI de), .int (nI fa), .int pl, .int na, .long num]))] (fun (r : Int32) (u : Unit) => r = nI 0 ∧ u = ()) (fun u : Unit => [(mA, .inr (3, [.ref ha, .int (nI n), .ref tA, .int (nI us), .ref bA, .ref eA, .ref zA, .int en, .ref wA, .int (nI lf), .ref pA, .int (nI dp), .int (nI nx), .int (nI ou), .ref oA, .int (nI os), .int (nI fi), .int (nI me), .int pu, .int (nI de), .int (nI fa), .int pl, .int na, .long num]))]) := by
  refine Mi.intro (by decide) (Nat.le_of_ble_eq_true rfl) ?_
  intro p e s m args below meth cd A ls R Q hR hQ C Z hl
  have hl : lv_has ls 5 [(0, .ref mA), (1, .long v), (3, .int (nI q))] := hl
  refine lv_iload_n C.1 C.2.1 d_Model_put_0 rfl (lv_at hl 2 rfl) ?_
  refine lv_iconst (v := nI 1) C.1 C.2.1 d_Model_put_1 (by decide) ?_
  refine r_lt (tgt := 23) C d_Model_put_2 (by decide) (by omega) (by omega) (fun h2 => (by omega : False).elim) (fun h2 => ?_)
  refine lv_iload_n C.1 C.2.1 d_Model_put_5 rfl (lv_at hl 2 rfl) ?_
  refine lv_bipush (v := nI 8) C.1 C.2.1 d_Model_put_6 (by decide) ?_
  refine r_gt (tgt := 23) C d_Model_put_8 (by decide) (by omega) (by omega) (fun h8 => (by omega : False).elim) (fun h8 => ?_)
  refine lv_aload_n C.1 C.2.1 d_Model_put_11 rfl (lv_at hl 0 rfl) ?_
  refine r_get C Z 0 f_Model_39 rfl rfl d_Model_put_12 ?_
  refine lv_iload_n C.1 C.2.1 d_Model_put_15 rfl (lv_at hl 2 rfl) ?_
  refine r_add C d_Model_put_16 ?_
  refine lv_sipush (v := nI 400) C.1 C.2.1 d_Model_put_17 (by decide) ?_
  refine r_le (tgt := 25) C d_Model_put_20 (by decide) (by omega) (by omega) (fun h20 => (by omega : False).elim) (fun h20 => ?_)
  refine lv_iconst (v := nI 0) C.1 C.2.1 d_Model_put_23 (by decide) ?_
  exact r_zret C Z (by omega) () (by first | exact ⟨rfl, rfl⟩ | (clear C Z hl; simp [h2, h8, h20]; done) | (clear C Z hl; grind)) rfl hQ d_Model_put_24

set_option maxHeartbeats 4000000 in
set_option maxRecDepth 100000 in
theorem c_Model_put (l : Launch) (D : va_G) (cI cZ : ClassId) (mA ha tA bA eA zA wA pA oA : Nat) (n : Nat) (us : Nat) (en : Int32) (lf : Nat) (dp : Nat) (nx : Nat) (ou : Nat) (os : Nat) (fi : Nat) (me : Nat) (pu : Int32) (de : Nat) (fa : Nat) (pl : Int32) (na : Int32) (num : Int64) (hand : Nat → Nat) (v : Int64) (q : Nat) (hq : 1 ≤ q ∧ q ≤ 8) (hf : n + q ≤ 400) : Mi l y_Model_put b_Model_put 5 (some .boolean) ({ frames := 0, cells := 0, slots := 0, locals := 0 } : Room) D cI cZ [.ref mA, .long v, .int (nI q)] [(mA, .inr (3, [.ref ha, .int (nI n), .ref tA, .int (nI us), .ref bA, .ref eA, .ref zA, .int en, .ref wA, .int (nI lf), .ref pA, .int (nI dp), .int (nI nx), .int (nI ou), .ref oA, .int (nI os), .int (nI fi), .int (nI me), .int pu, .int (nI de), .int (nI fa), .int pl, .int na, .long num])), (ha, .inl (cI, 400, .inl (aN hand)))] (fun (r : Int32) (u : Nat × (Nat → Nat)) => r = nI 1 ∧ u = (n + q, putL v q n hand)) (fun u : Nat × (Nat → Nat) => [(mA, .inr (3, [.ref ha, .int (nI u.1), .ref tA, .int (nI us), .ref bA, .ref eA, .ref zA, .int en, .ref wA, .int (nI lf), .ref pA, .int (nI dp), .int (nI nx), .int (nI ou), .ref oA, .int (nI os), .int (nI fi), .int (nI me), .int pu, .int (nI de), .int (nI fa), .int pl, .int na, .long num])), (ha, .inl (cI, 400, .inl (aN u.2)))]) := by
  refine Mi.intro (by decide) (Nat.le_of_ble_eq_true rfl) ?_
  intro p e s m args below meth cd A ls R Q hR hQ C Z hl
  have hl : lv_has ls 5 [(0, .ref mA), (1, .long v), (3, .int (nI q))] := hl
  refine lv_iload_n C.1 C.2.1 d_Model_put_0 rfl (lv_at hl 2 rfl) ?_
  refine lv_iconst (v := nI 1) C.1 C.2.1 d_Model_put_1 (by decide) ?_
  refine r_lt (tgt := 23) C d_Model_put_2 (by decide) (by omega) (by omega) (fun h2 => (by omega : False).elim) (fun h2 => ?_)
  refine lv_iload_n C.1 C.2.1 d_Model_put_5 rfl (lv_at hl 2 rfl) ?_
  refine lv_bipush (v := nI 8) C.1 C.2.1 d_Model_put_6 (by decide) ?_
  refine r_gt (tgt := 23) C d_Model_put_8 (by decide) (by omega) (by omega) (fun h8 => (by omega : False).elim) (fun h8 => ?_)
  refine lv_aload_n C.1 C.2.1 d_Model_put_11 rfl (lv_at hl 0 rfl) ?_
  refine r_get C Z 0 f_Model_39 rfl rfl d_Model_put_12 ?_
  refine lv_iload_n C.1 C.2.1 d_Model_put_15 rfl (lv_at hl 2 rfl) ?_
  refine r_add C d_Model_put_16 ?_
  refine lv_sipush (v := nI 400) C.1 C.2.1 d_Model_put_17 (by decide) ?_
  refine r_le (tgt := 25) C d_Model_put_20 (by decide) (by omega) (by omega) (fun h20 => ?_) (fun h20 => (by omega : False).elim)
  refine lv_iconst (v := nI 0) C.1 C.2.1 d_Model_put_25 (by decide) ?_
  refine lv_istore (lv' := [(4, .int (nI 0)), (0, .ref mA), (1, .long v), (3, .int (nI q))]) C.1 C.2.1 d_Model_put_26 hl (by decide) rfl (fun ls hl => ?_)
  obtain ⟨X, hX⟩ : ∃ X, X = putL v q n hand := ⟨_, rfl⟩
  have loop : ∀ (r k : Nat) (hand : Nat → Nat), k + r = q → putL v r (n + k) hand = X → ∀ (H : Heap) (locs : List Loc) (ls : Array Slot), Wd D A s.heap [(mA, .inr (3, [.ref ha, .int (nI n), .ref tA, .int (nI us), .ref bA, .ref eA, .ref zA, .int en, .ref wA, .int (nI lf), .ref pA, .int (nI dp), .int (nI nx), .int (nI ou), .ref oA, .int (nI os), .int (nI fi), .int (nI me), .int pu, .int (nI de), .int (nI fa), .int pl, .int na, .long num])), (ha, .inl (cI, 400, .inl (aN hand)))] H locs → lv_has ls 5 [(4, .int (nI k)), (0, .ref mA), (1, .long v), (3, .int (nI q))] → W p l e R s m args below meth cd H locs 0 0 Q (F0 m 28 ls []) := by
    clear hl Z
    intro r
    induction r with
    | zero =>
      intro k hand hkr hF H locs ls Z hl
      refine lv_iload C.1 C.2.1 d_Model_put_28 (lv_at hl 0 rfl) ?_
      refine lv_iload_n C.1 C.2.1 d_Model_put_30 rfl (lv_at hl 3 rfl) ?_
      refine r_ge (tgt := 68) C d_Model_put_31 (by decide) (by omega) (by omega) (fun h31 => ?_) (fun h31 => (by omega : False).elim)
      refine lv_aload_n C.1 C.2.1 d_Model_put_68 rfl (lv_at hl 1 rfl) ?_
      refine lv_aload_n C.1 C.2.1 d_Model_put_69 rfl (lv_at hl 1 rfl) ?_
      refine r_get C Z 0 f_Model_39 rfl rfl d_Model_put_70 ?_
      refine lv_iload_n C.1 C.2.1 d_Model_put_73 rfl (lv_at hl 3 rfl) ?_
      refine r_add C d_Model_put_74 ?_
      refine r_put (ws' := [(mA, .inr (3, [.ref ha, .int (nI (n + q)), .ref tA, .int (nI us), .ref bA, .ref eA, .ref zA, .int en, .ref wA, .int (nI lf), .ref pA, .int (nI dp), .int (nI nx), .int (nI ou), .ref oA, .int (nI os), .int (nI fi), .int (nI me), .int pu, .int (nI de), .int (nI fa), .int pl, .int na, .long num])), (ha, .inl (cI, 400, .inl (aN hand)))]) C Z 0 f_Model_39 rfl rfl rfl (Nat.le_of_ble_eq_true rfl) rfl d_Model_put_75 (fun H locs Z => ?_)
      refine lv_iconst (v := nI 1) C.1 C.2.1 d_Model_put_78 (by decide) ?_
      exact r_zret C Z (by omega) (n + q, hand) (by clear C Z hl; have hF2 : hand = X := hF; exact ⟨rfl, by rw [hF2, hX]⟩) rfl hQ d_Model_put_79
    | succ r ih =>
      intro k hand hkr hF H locs ls Z hl
      refine lv_iload C.1 C.2.1 d_Model_put_28 (lv_at hl 0 rfl) ?_
      refine lv_iload_n C.1 C.2.1 d_Model_put_30 rfl (lv_at hl 3 rfl) ?_
      refine r_ge (tgt := 68) C d_Model_put_31 (by decide) (by omega) (by omega) (fun h31 => (by omega : False).elim) (fun h31 => ?_)
      refine lv_aload_n C.1 C.2.1 d_Model_put_34 rfl (lv_at hl 1 rfl) ?_
      refine r_get C Z 0 f_Model_7 rfl rfl d_Model_put_35 ?_
      refine lv_aload_n C.1 C.2.1 d_Model_put_38 rfl (lv_at hl 1 rfl) ?_
      refine r_get C Z 0 f_Model_39 rfl rfl d_Model_put_39 ?_
      refine lv_iload C.1 C.2.1 d_Model_put_42 (lv_at hl 0 rfl) ?_
      refine r_add C d_Model_put_44 ?_
      refine lv_lload_n C.1 C.2.1 d_Model_put_45 rfl (lv_at hl 2 rfl) ?_
      refine lv_bipush (v := nI 8) C.1 C.2.1 d_Model_put_46 (by decide) ?_
      refine lv_iload_n C.1 C.2.1 d_Model_put_48 rfl (lv_at hl 3 rfl) ?_
      refine lv_iconst (v := nI 1) C.1 C.2.1 d_Model_put_49 (by decide) ?_
      refine r_sub C (by omega) d_Model_put_50 ?_
      refine lv_iload C.1 C.2.1 d_Model_put_51 (lv_at hl 0 rfl) ?_
      refine r_sub C (by omega) d_Model_put_53 ?_
      refine r_mul C d_Model_put_54 ?_
      refine lv_lshr C.1 C.2.1 d_Model_put_55 rfl ?_
      refine lv_ldc2 (v := lN 255) C.1 C.2.1 C.2.2.2.2.2.1 (C.2.2.2.2.2.2.1 _ c_Model_42) d_Model_put_56 ?_
      refine lv_land C.1 C.2.1 d_Model_put_59 ?_
      refine lv_l2i C.1 C.2.1 d_Model_put_60 rfl ?_
      rw [show q - 1 - k = r by omega, byt_s v (show r < 8 by omega)]
      refine r_istN (ws' := [(mA, .inr (3, [.ref ha, .int (nI n), .ref tA, .int (nI us), .ref bA, .ref eA, .ref zA, .int en, .ref wA, .int (nI lf), .ref pA, .int (nI dp), .int (nI nx), .int (nI ou), .ref oA, .int (nI os), .int (nI fi), .int (nI me), .int pu, .int (nI de), .int (nI fa), .int pl, .int na, .long num])), (ha, .inl (cI, 400, .inl (aN (updN hand (n + k) (byt v r)))))]) C Z 1 rfl (by omega) (by decide) rfl d_Model_put_61 (fun H locs Z => ?_)
      refine lv_iinc (v := nI (k + 1)) (lv' := [(4, .int (nI (k + 1))), (0, .ref mA), (1, .long v), (3, .int (nI q))]) C.1 C.2.1 d_Model_put_62 hl (k := 0) rfl (r_inc1 _) (by decide) rfl (fun ls hl => ?_)
      refine lv_goto (tgt := 28) C.1 C.2.1 d_Model_put_65 (by decide) ?_
      exact ih (k + 1) (updN hand (n + k) (byt v r)) (by omega) hF _ _ _ Z hl
  exact loop q 0 hand (by omega) hX.symm _ _ _ Z hl

set_option maxHeartbeats 4000000 in
set_option maxRecDepth 100000 in
theorem c_Model_fail (l : Launch) (D : va_G) (cI cZ : ClassId) (mA ha tA bA eA zA wA pA oA : Nat) (n : Nat) (us : Nat) (en : Int32) (lf : Nat) (dp : Nat) (nx : Nat) (ou : Nat) (os : Nat) (fi : Nat) (me : Nat) (pu : Int32) (de : Nat) (fa : Nat) (pl : Int32) (na : Int32) (num : Int64) (w : Nat) (x : Int32) (hdp : dp ≤ 12) : Mi l y_Model_fail b_Model_fail 3 (some .int) ({ frames := 0, cells := 0, slots := 0, locals := 0 } : Room) D cI cZ [.ref mA, .int (nI w), .int x] [(mA, .inr (3, [.ref ha, .int (nI n), .ref tA, .int (nI us), .ref bA, .ref eA, .ref zA, .int en, .ref wA, .int (nI lf), .ref pA, .int (nI dp), .int (nI nx), .int (nI ou), .ref oA, .int (nI os), .int (nI fi), .int (nI me), .int pu, .int (nI de), .int (nI fa), .int pl, .int na, .long num]))] (fun (r : Int32) (u : Nat × Int32) => r = (-1) ∧ u = (w, plP dp ou x)) (fun u : Nat × Int32 => [(mA, .inr (3, [.ref ha, .int (nI n), .ref tA, .int (nI us), .ref bA, .ref eA, .ref zA, .int en, .ref wA, .int (nI lf), .ref pA, .int (nI dp), .int (nI nx), .int (nI ou), .ref oA, .int (nI os), .int (nI fi), .int (nI me), .int pu, .int (nI de), .int (nI u.1), .int u.2, .int na, .long num]))]) := by
  refine Mi.intro (by decide) (Nat.le_of_ble_eq_true rfl) ?_
  intro p e s m args below meth cd A ls R Q hR hQ C Z hl
  have hl : lv_has ls 3 [(0, .ref mA), (1, .int (nI w)), (2, .int x)] := hl
  refine lv_aload_n C.1 C.2.1 d_Model_fail_0 rfl (lv_at hl 0 rfl) ?_
  refine lv_iload_n C.1 C.2.1 d_Model_fail_1 rfl (lv_at hl 1 rfl) ?_
  refine r_put (ws' := [(mA, .inr (3, [.ref ha, .int (nI n), .ref tA, .int (nI us), .ref bA, .ref eA, .ref zA, .int en, .ref wA, .int (nI lf), .ref pA, .int (nI dp), .int (nI nx), .int (nI ou), .ref oA, .int (nI os), .int (nI fi), .int (nI me), .int pu, .int (nI de), .int (nI w), .int pl, .int na, .long num]))]) C Z 0 f_Model_44 rfl rfl rfl (Nat.le_of_ble_eq_true rfl) rfl d_Model_fail_2 (fun H locs Z => ?_)
  refine lv_aload_n C.1 C.2.1 d_Model_fail_5 rfl (lv_at hl 0 rfl) ?_
  refine lv_aload_n C.1 C.2.1 d_Model_fail_6 rfl (lv_at hl 0 rfl) ?_
  refine r_get C Z 0 f_Model_47 rfl rfl d_Model_fail_7 ?_
  refine r_zle (tgt := 20) C d_Model_fail_10 (by decide) (by omega) (fun h10 => ?_) (fun h10 => ?_)
  · skip
    refine lv_iload_n C.1 C.2.1 d_Model_fail_20 rfl (lv_at hl 2 rfl) ?_
    refine r_put (ws' := [(mA, .inr (3, [.ref ha, .int (nI n), .ref tA, .int (nI us), .ref bA, .ref eA, .ref zA, .int en, .ref wA, .int (nI lf), .ref pA, .int (nI dp), .int (nI nx), .int (nI ou), .ref oA, .int (nI os), .int (nI fi), .int (nI me), .int pu, .int (nI de), .int (nI w), .int x, .int na, .long num]))]) C Z 0 f_Model_35 rfl rfl rfl (Nat.le_of_ble_eq_true rfl) rfl d_Model_fail_21 (fun H locs Z => ?_)
    refine lv_iconst (v := (-1)) C.1 C.2.1 d_Model_fail_24 (by decide) ?_
    exact r_iret C Z (w, x) (by unfold plP; first | (rw [if_pos (by omega)]; exact ⟨rfl, rfl⟩) | (rw [if_neg (by omega)]; exact ⟨rfl, rfl⟩)) rfl hQ d_Model_fail_25
  · skip
    refine lv_aload_n C.1 C.2.1 d_Model_fail_13 rfl (lv_at hl 0 rfl) ?_
    refine r_get C Z 0 f_Model_50 rfl rfl d_Model_fail_14 ?_
    refine lv_goto (tgt := 21) C.1 C.2.1 d_Model_fail_17 (by decide) ?_
    refine r_put (ws' := [(mA, .inr (3, [.ref ha, .int (nI n), .ref tA, .int (nI us), .ref bA, .ref eA, .ref zA, .int en, .ref wA, .int (nI lf), .ref pA, .int (nI dp), .int (nI nx), .int (nI ou), .ref oA, .int (nI os), .int (nI fi), .int (nI me), .int pu, .int (nI de), .int (nI w), .int (nI ou), .int na, .long num]))]) C Z 0 f_Model_35 rfl rfl rfl (Nat.le_of_ble_eq_true rfl) rfl d_Model_fail_21 (fun H locs Z => ?_)
    refine lv_iconst (v := (-1)) C.1 C.2.1 d_Model_fail_24 (by decide) ?_
    exact r_iret C Z (w, nI ou) (by unfold plP; first | (rw [if_pos (by omega)]; exact ⟨rfl, rfl⟩) | (rw [if_neg (by omega)]; exact ⟨rfl, rfl⟩)) rfl hQ d_Model_fail_25

set_option maxHeartbeats 4000000 in
set_option maxRecDepth 100000 in
theorem c_Model_peek (l : Launch) (D : va_G) (cI cZ : ClassId) (mA ha tA bA eA zA wA pA oA : Nat) (n : Nat) (us : Nat) (en : Int32) (lf : Nat) (dp : Nat) (nx : Nat) (ou : Nat) (os : Nat) (fi : Nat) (me : Nat) (pu : Int32) (de : Nat) (fa : Nat) (pl : Int32) (na : Int32) (num : Int64) (rw : Nat → Int32) (stk : List Nat) (c : Nat) (hrow : Row rw stk) (hlf : lf = stk.length) (hl26 : lf ≤ 2600) (hpk : pkN stk = c + 1) : Mi l y_Model_peek b_Model_peek 1 (some .int) ({ frames := 0, cells := 0, slots := 0, locals := 0 } : Room) D cI cZ [.ref mA] [(mA, .inr (3, [.ref ha, .int (nI n), .ref tA, .int (nI us), .ref bA, .ref eA, .ref zA, .int en, .ref wA, .int (nI lf), .ref pA, .int (nI dp), .int (nI nx), .int (nI ou), .ref oA, .int (nI os), .int (nI fi), .int (nI me), .int pu, .int (nI de), .int (nI fa), .int pl, .int na, .long num])), (wA, .inl (cI, 2600, .inl rw))] (fun (r : Int32) (u : Unit) => r = nI c ∧ u = ()) (fun u : Unit => [(mA, .inr (3, [.ref ha, .int (nI n), .ref tA, .int (nI us), .ref bA, .ref eA, .ref zA, .int en, .ref wA, .int (nI lf), .ref pA, .int (nI dp), .int (nI nx), .int (nI ou), .ref oA, .int (nI os), .int (nI fi), .int (nI me), .int pu, .int (nI de), .int (nI fa), .int pl, .int na, .long num])), (wA, .inl (cI, 2600, .inl rw))]) := by
  refine Mi.intro (by decide) (Nat.le_of_ble_eq_true rfl) ?_
  intro p e s m args below meth cd A ls R Q hR hQ C Z hl
  have hl : lv_has ls 1 [(0, .ref mA)] := hl
  obtain ⟨ht1, ht2, ht3⟩ := Row_top hrow hpk
  rw [← hlf] at ht1 ht2
  refine lv_aload_n C.1 C.2.1 d_Model_peek_0 rfl (lv_at hl 0 rfl) ?_
  refine r_get C Z 0 f_Model_53 rfl rfl d_Model_peek_1 ?_
  refine r_zeq (tgt := 21) C d_Model_peek_4 (by decide) (by omega) (fun h4 => (by omega : False).elim) (fun h4 => ?_)
  refine lv_aload_n C.1 C.2.1 d_Model_peek_7 rfl (lv_at hl 0 rfl) ?_
  refine r_get C Z 0 f_Model_26 rfl rfl d_Model_peek_8 ?_
  refine lv_aload_n C.1 C.2.1 d_Model_peek_11 rfl (lv_at hl 0 rfl) ?_
  refine r_get C Z 0 f_Model_53 rfl rfl d_Model_peek_12 ?_
  refine lv_iconst (v := nI 1) C.1 C.2.1 d_Model_peek_15 (by decide) ?_
  refine r_sub C (by omega) d_Model_peek_16 ?_
  refine r_ild C Z 1 rfl (by omega) (by decide) d_Model_peek_17 ?_
  rw [ht1]
  refine r_zge (tgt := 25) C d_Model_peek_18 (by decide) (by omega) ?_
  refine lv_aload_n C.1 C.2.1 d_Model_peek_25 rfl (lv_at hl 0 rfl) ?_
  refine r_get C Z 0 f_Model_26 rfl rfl d_Model_peek_26 ?_
  refine lv_aload_n C.1 C.2.1 d_Model_peek_29 rfl (lv_at hl 0 rfl) ?_
  refine r_get C Z 0 f_Model_53 rfl rfl d_Model_peek_30 ?_
  refine lv_iconst (v := nI 1) C.1 C.2.1 d_Model_peek_33 (by decide) ?_
  refine r_sub C (by omega) d_Model_peek_34 ?_
  refine r_ild C Z 1 rfl (by omega) (by decide) d_Model_peek_35 ?_
  rw [ht1]
  exact r_iret C Z () (by first | exact ⟨rfl, rfl⟩ | (clear C Z hl; simp [h4]; done) | (clear C Z hl; grind)) rfl hQ d_Model_peek_36

set_option maxHeartbeats 4000000 in
set_option maxRecDepth 100000 in
theorem c_Model_peek0 (l : Launch) (D : va_G) (cI cZ : ClassId) (mA ha tA bA eA zA wA pA oA : Nat) (n : Nat) (us : Nat) (en : Int32) (lf : Nat) (dp : Nat) (nx : Nat) (ou : Nat) (os : Nat) (fi : Nat) (me : Nat) (pu : Int32) (de : Nat) (fa : Nat) (pl : Int32) (na : Int32) (num : Int64) (rw : Nat → Int32) (stk : List Nat) (hrow : Row rw stk) (hlf : lf = stk.length) (hl26 : lf ≤ 2600) (hpk : pkN stk = 0) (hmk : ∀ x ∈ stk, x < 300) : Mi l y_Model_peek b_Model_peek 1 (some .int) ({ frames := 0, cells := 0, slots := 0, locals := 0 } : Room) D cI cZ [.ref mA] [(mA, .inr (3, [.ref ha, .int (nI n), .ref tA, .int (nI us), .ref bA, .ref eA, .ref zA, .int en, .ref wA, .int (nI lf), .ref pA, .int (nI dp), .int (nI nx), .int (nI ou), .ref oA, .int (nI os), .int (nI fi), .int (nI me), .int pu, .int (nI de), .int (nI fa), .int pl, .int na, .long num])), (wA, .inl (cI, 2600, .inl rw))] (fun (r : Int32) (u : Unit) => r = (-1) ∧ u = ()) (fun u : Unit => [(mA, .inr (3, [.ref ha, .int (nI n), .ref tA, .int (nI us), .ref bA, .ref eA, .ref zA, .int en, .ref wA, .int (nI lf), .ref pA, .int (nI dp), .int (nI nx), .int (nI ou), .ref oA, .int (nI os), .int (nI fi), .int (nI me), .int pu, .int (nI de), .int (nI fa), .int pl, .int na, .long num])), (wA, .inl (cI, 2600, .inl rw))]) := by
  refine Mi.intro (by decide) (Nat.le_of_ble_eq_true rfl) ?_
  intro p e s m args below meth cd A ls R Q hR hQ C Z hl
  have hl : lv_has ls 1 [(0, .ref mA)] := hl
  refine lv_aload_n C.1 C.2.1 d_Model_peek_0 rfl (lv_at hl 0 rfl) ?_
  refine r_get C Z 0 f_Model_53 rfl rfl d_Model_peek_1 ?_
  refine r_zeq (tgt := 21) C d_Model_peek_4 (by decide) (by omega) (fun h4 => ?_) (fun h4 => ?_)
  · skip
    refine lv_iconst (v := (-1)) C.1 C.2.1 d_Model_peek_21 (by decide) ?_
    refine lv_goto (tgt := 36) C.1 C.2.1 d_Model_peek_22 (by decide) ?_
    exact r_iret C Z () (by first | exact ⟨rfl, rfl⟩ | (clear C Z hl; simp [h4]; done) | (clear C Z hl; grind)) rfl hQ d_Model_peek_36
  · skip
    refine lv_aload_n C.1 C.2.1 d_Model_peek_7 rfl (lv_at hl 0 rfl) ?_
    refine r_get C Z 0 f_Model_26 rfl rfl d_Model_peek_8 ?_
    refine lv_aload_n C.1 C.2.1 d_Model_peek_11 rfl (lv_at hl 0 rfl) ?_
    refine r_get C Z 0 f_Model_53 rfl rfl d_Model_peek_12 ?_
    refine lv_iconst (v := nI 1) C.1 C.2.1 d_Model_peek_15 (by decide) ?_
    refine r_sub C (by omega) d_Model_peek_16 ?_
    refine r_ild C Z 1 rfl (by omega) (by decide) d_Model_peek_17 ?_
    have hneg : ¬ (0 : Int32) ≤ rw (lf - 1) := by
      rcases pkN_0 hpk with rfl | ⟨x, t, rfl, hx⟩
      · exact absurd hlf h4
      · rw [hlf]; have hq := hrow.1; rw [enc_m hx] at hq; have := hmk x List.mem_cons_self; rw [show (x :: t).length - 1 = t.length by simp, hq]; exact neg_mark (by omega)
    refine lv_if_ge (tgt := 25) C.1 C.2.1 d_Model_peek_18 (by decide) (fun h18 => absurd h18 hneg) (fun h18 => ?_)
    refine lv_iconst (v := (-1)) C.1 C.2.1 d_Model_peek_21 (by decide) ?_
    refine lv_goto (tgt := 36) C.1 C.2.1 d_Model_peek_22 (by decide) ?_
    exact r_iret C Z () (by first | exact ⟨rfl, rfl⟩ | (clear C Z hl; simp [h4, h18]; done) | (clear C Z hl; grind)) rfl hQ d_Model_peek_36

set_option maxHeartbeats 4000000 in
set_option maxRecDepth 100000 in
theorem c_Model_pass (l : Launch) (D : va_G) (cI cZ : ClassId) (mA ha tA bA eA zA wA pA oA : Nat) (n : Nat) (us : Nat) (en : Int32) (lf : Nat) (dp : Nat) (nx : Nat) (ou : Nat) (os : Nat) (fi : Nat) (me : Nat) (pu : Int32) (de : Nat) (fa : Nat) (pl : Int32) (na : Int32) (num : Int64) (hlf : 0 < lf) (hl26 : lf ≤ 2600) (hdp : dp ≤ 12) : Mv l y_Model_pass b_Model_pass 1 ({ frames := 0, cells := 0, slots := 0, locals := 0 } : Room) D cI cZ [.ref mA] [(mA, .inr (3, [.ref ha, .int (nI n), .ref tA, .int (nI us), .ref bA, .ref eA, .ref zA, .int en, .ref wA, .int (nI lf), .ref pA, .int (nI dp), .int (nI nx), .int (nI ou), .ref oA, .int (nI os), .int (nI fi), .int (nI me), .int pu, .int (nI de), .int (nI fa), .int pl, .int na, .long num]))] (fun u : Nat × Nat => u = (lf - 1, nxP dp nx)) (fun u : Nat × Nat => [(mA, .inr (3, [.ref ha, .int (nI n), .ref tA, .int (nI us), .ref bA, .ref eA, .ref zA, .int en, .ref wA, .int (nI u.1), .ref pA, .int (nI dp), .int (nI u.2), .int (nI ou), .ref oA, .int (nI os), .int (nI fi), .int (nI me), .int pu, .int (nI de), .int (nI fa), .int pl, .int na, .long num]))]) 0 0 := by
  refine Mv.intro (by decide) (Nat.le_of_ble_eq_true rfl) ?_
  intro p e s m args below meth cd A ls R Q hR hQ C hin Z hl
  have hl : lv_has ls 1 [(0, .ref mA)] := hl
  refine lv_aload_n C.1 C.2.1 d_Model_pass_0 rfl (lv_at hl 0 rfl) ?_
  refine lv_aload_n C.1 C.2.1 d_Model_pass_1 rfl (lv_at hl 0 rfl) ?_
  refine r_get C Z 0 f_Model_53 rfl rfl d_Model_pass_2 ?_
  refine lv_iconst (v := nI 1) C.1 C.2.1 d_Model_pass_5 (by decide) ?_
  refine r_sub C (by omega) d_Model_pass_6 ?_
  refine r_put (ws' := [(mA, .inr (3, [.ref ha, .int (nI n), .ref tA, .int (nI us), .ref bA, .ref eA, .ref zA, .int en, .ref wA, .int (nI (lf - 1)), .ref pA, .int (nI dp), .int (nI nx), .int (nI ou), .ref oA, .int (nI os), .int (nI fi), .int (nI me), .int pu, .int (nI de), .int (nI fa), .int pl, .int na, .long num]))]) C Z 0 f_Model_53 rfl rfl rfl (Nat.le_of_ble_eq_true rfl) rfl d_Model_pass_7 (fun H locs Z => ?_)
  refine lv_aload_n C.1 C.2.1 d_Model_pass_10 rfl (lv_at hl 0 rfl) ?_
  refine r_get C Z 0 f_Model_47 rfl rfl d_Model_pass_11 ?_
  refine r_zne (tgt := 27) C d_Model_pass_14 (by decide) (by omega) (fun h14 => ?_) (fun h14 => ?_)
  · skip
    exact r_vret C Z (lf - 1, nx) (by unfold nxP; first | rw [if_pos (by omega)] | rw [if_neg (by omega)]) rfl hQ d_Model_pass_27
  · skip
    refine lv_aload_n C.1 C.2.1 d_Model_pass_17 rfl (lv_at hl 0 rfl) ?_
    refine lv_aload_n C.1 C.2.1 d_Model_pass_18 rfl (lv_at hl 0 rfl) ?_
    refine r_get C Z 0 f_Model_56 rfl rfl d_Model_pass_19 ?_
    refine lv_iconst (v := nI 1) C.1 C.2.1 d_Model_pass_22 (by decide) ?_
    refine r_add C d_Model_pass_23 ?_
    refine r_put (ws' := [(mA, .inr (3, [.ref ha, .int (nI n), .ref tA, .int (nI us), .ref bA, .ref eA, .ref zA, .int en, .ref wA, .int (nI (lf - 1)), .ref pA, .int (nI dp), .int (nI (nx + 1)), .int (nI ou), .ref oA, .int (nI os), .int (nI fi), .int (nI me), .int pu, .int (nI de), .int (nI fa), .int pl, .int na, .long num]))]) C Z 0 f_Model_56 rfl rfl rfl (Nat.le_of_ble_eq_true rfl) rfl d_Model_pass_24 (fun H locs Z => ?_)
    exact r_vret C Z (lf - 1, nx + 1) (by unfold nxP; first | rw [if_pos (by omega)] | rw [if_neg (by omega)]) rfl hQ d_Model_pass_27

set_option maxHeartbeats 4000000 in
set_option maxRecDepth 100000 in
theorem c_Model_digit (l : Launch) (D : va_G) (cI cZ : ClassId) (c : Nat) (base : Nat) (v : Nat) (hc : c < 256) (hb : base ≤ 16) (hv : dgN base c = v + 1) : Mi l y_Model_digit b_Model_digit 2 (some .int) ({ frames := 0, cells := 0, slots := 0, locals := 0 } : Room) D cI cZ [.int (nI c), .int (nI base)] [] (fun (r : Int32) (u : Unit) => r = nI v ∧ u = ()) (fun u : Unit => []) := by
  refine Mi.intro (by decide) (Nat.le_of_ble_eq_true rfl) ?_
  intro p e s m args below meth cd A ls R Q hR hQ C Z hl
  have hl : lv_has ls 2 [(0, .int (nI c)), (1, .int (nI base))] := hl
  refine lv_iload_n C.1 C.2.1 d_Model_digit_0 rfl (lv_at hl 0 rfl) ?_
  refine lv_bipush (v := nI 48) C.1 C.2.1 d_Model_digit_1 (by decide) ?_
  refine r_lt (tgt := 17) C d_Model_digit_3 (by decide) (by omega) (by omega) (fun h3 => ?_) (fun h3 => ?_)
  · skip
    refine lv_iload_n C.1 C.2.1 d_Model_digit_17 rfl (lv_at hl 1 rfl) ?_
    refine lv_bipush (v := nI 16) C.1 C.2.1 d_Model_digit_18 (by decide) ?_
    refine r_ne (tgt := 43) C d_Model_digit_20 (by decide) (by omega) (by omega) (fun h20 => ?_) (fun h20 => ?_)
    · skip
      refine lv_iload_n C.1 C.2.1 d_Model_digit_43 rfl (lv_at hl 1 rfl) ?_
      refine lv_bipush (v := nI 16) C.1 C.2.1 d_Model_digit_44 (by decide) ?_
      refine r_ne (tgt := 71) C d_Model_digit_46 (by decide) (by omega) (by omega) (fun h46 => ?_) (fun h46 => ?_)
      · skip
        refine lv_iconst (v := (-1)) C.1 C.2.1 d_Model_digit_71 (by decide) ?_
        exact r_iret C Z () (by clear C Z hl; unfold dgN at hv; (repeat' split at hv) <;> first | omega | exact ⟨by congr 1; omega, rfl⟩) rfl hQ d_Model_digit_72
      · skip
        refine lv_iload_n C.1 C.2.1 d_Model_digit_49 rfl (lv_at hl 0 rfl) ?_
        refine lv_bipush (v := nI 65) C.1 C.2.1 d_Model_digit_50 (by decide) ?_
        refine r_lt (tgt := 71) C d_Model_digit_52 (by decide) (by omega) (by omega) (fun h52 => ?_) (fun h52 => ?_)
        · skip
          refine lv_iconst (v := (-1)) C.1 C.2.1 d_Model_digit_71 (by decide) ?_
          exact r_iret C Z () (by clear C Z hl; unfold dgN at hv; (repeat' split at hv) <;> first | omega | exact ⟨by congr 1; omega, rfl⟩) rfl hQ d_Model_digit_72
        · skip
          refine lv_iload_n C.1 C.2.1 d_Model_digit_55 rfl (lv_at hl 0 rfl) ?_
          refine lv_bipush (v := nI 70) C.1 C.2.1 d_Model_digit_56 (by decide) ?_
          refine r_gt (tgt := 71) C d_Model_digit_58 (by decide) (by omega) (by omega) (fun h58 => ?_) (fun h58 => ?_)
          · skip
            refine lv_iconst (v := (-1)) C.1 C.2.1 d_Model_digit_71 (by decide) ?_
            exact r_iret C Z () (by clear C Z hl; unfold dgN at hv; (repeat' split at hv) <;> first | omega | exact ⟨by congr 1; omega, rfl⟩) rfl hQ d_Model_digit_72
          · skip
            refine lv_iload_n C.1 C.2.1 d_Model_digit_61 rfl (lv_at hl 0 rfl) ?_
            refine lv_bipush (v := nI 65) C.1 C.2.1 d_Model_digit_62 (by decide) ?_
            refine r_sub C (by omega) d_Model_digit_64 ?_
            refine lv_bipush (v := nI 10) C.1 C.2.1 d_Model_digit_65 (by decide) ?_
            refine r_add C d_Model_digit_67 ?_
            refine lv_goto (tgt := 72) C.1 C.2.1 d_Model_digit_68 (by decide) ?_
            exact r_iret C Z () (by clear C Z hl; unfold dgN at hv; (repeat' split at hv) <;> first | omega | exact ⟨by congr 1; omega, rfl⟩) rfl hQ d_Model_digit_72
    · skip
      refine lv_iload_n C.1 C.2.1 d_Model_digit_23 rfl (lv_at hl 0 rfl) ?_
      refine lv_bipush (v := nI 97) C.1 C.2.1 d_Model_digit_24 (by decide) ?_
      refine r_lt (tgt := 43) C d_Model_digit_26 (by decide) (by omega) (by omega) (fun h26 => ?_) (fun h26 => ?_)
      · skip
        refine lv_iload_n C.1 C.2.1 d_Model_digit_43 rfl (lv_at hl 1 rfl) ?_
        refine lv_bipush (v := nI 16) C.1 C.2.1 d_Model_digit_44 (by decide) ?_
        refine r_ne (tgt := 71) C d_Model_digit_46 (by decide) (by omega) (by omega) (fun h46 => ?_) (fun h46 => ?_)
        · skip
          refine lv_iconst (v := (-1)) C.1 C.2.1 d_Model_digit_71 (by decide) ?_
          exact r_iret C Z () (by clear C Z hl; unfold dgN at hv; (repeat' split at hv) <;> first | omega | exact ⟨by congr 1; omega, rfl⟩) rfl hQ d_Model_digit_72
        · skip
          refine lv_iload_n C.1 C.2.1 d_Model_digit_49 rfl (lv_at hl 0 rfl) ?_
          refine lv_bipush (v := nI 65) C.1 C.2.1 d_Model_digit_50 (by decide) ?_
          refine r_lt (tgt := 71) C d_Model_digit_52 (by decide) (by omega) (by omega) (fun h52 => ?_) (fun h52 => ?_)
          · skip
            refine lv_iconst (v := (-1)) C.1 C.2.1 d_Model_digit_71 (by decide) ?_
            exact r_iret C Z () (by clear C Z hl; unfold dgN at hv; (repeat' split at hv) <;> first | omega | exact ⟨by congr 1; omega, rfl⟩) rfl hQ d_Model_digit_72
          · skip
            refine lv_iload_n C.1 C.2.1 d_Model_digit_55 rfl (lv_at hl 0 rfl) ?_
            refine lv_bipush (v := nI 70) C.1 C.2.1 d_Model_digit_56 (by decide) ?_
            refine r_gt (tgt := 71) C d_Model_digit_58 (by decide) (by omega) (by omega) (fun h58 => ?_) (fun h58 => ?_)
            · skip
              refine lv_iconst (v := (-1)) C.1 C.2.1 d_Model_digit_71 (by decide) ?_
              exact r_iret C Z () (by clear C Z hl; unfold dgN at hv; (repeat' split at hv) <;> first | omega | exact ⟨by congr 1; omega, rfl⟩) rfl hQ d_Model_digit_72
            · skip
              refine lv_iload_n C.1 C.2.1 d_Model_digit_61 rfl (lv_at hl 0 rfl) ?_
              refine lv_bipush (v := nI 65) C.1 C.2.1 d_Model_digit_62 (by decide) ?_
              refine r_sub C (by omega) d_Model_digit_64 ?_
              refine lv_bipush (v := nI 10) C.1 C.2.1 d_Model_digit_65 (by decide) ?_
              refine r_add C d_Model_digit_67 ?_
              refine lv_goto (tgt := 72) C.1 C.2.1 d_Model_digit_68 (by decide) ?_
              exact r_iret C Z () (by clear C Z hl; unfold dgN at hv; (repeat' split at hv) <;> first | omega | exact ⟨by congr 1; omega, rfl⟩) rfl hQ d_Model_digit_72
      · skip
        refine lv_iload_n C.1 C.2.1 d_Model_digit_29 rfl (lv_at hl 0 rfl) ?_
        refine lv_bipush (v := nI 102) C.1 C.2.1 d_Model_digit_30 (by decide) ?_
        refine r_gt (tgt := 43) C d_Model_digit_32 (by decide) (by omega) (by omega) (fun h32 => ?_) (fun h32 => ?_)
        · skip
          refine lv_iload_n C.1 C.2.1 d_Model_digit_43 rfl (lv_at hl 1 rfl) ?_
          refine lv_bipush (v := nI 16) C.1 C.2.1 d_Model_digit_44 (by decide) ?_
          refine r_ne (tgt := 71) C d_Model_digit_46 (by decide) (by omega) (by omega) (fun h46 => ?_) (fun h46 => ?_)
          · skip
            refine lv_iconst (v := (-1)) C.1 C.2.1 d_Model_digit_71 (by decide) ?_
            exact r_iret C Z () (by clear C Z hl; unfold dgN at hv; (repeat' split at hv) <;> first | omega | exact ⟨by congr 1; omega, rfl⟩) rfl hQ d_Model_digit_72
          · skip
            refine lv_iload_n C.1 C.2.1 d_Model_digit_49 rfl (lv_at hl 0 rfl) ?_
            refine lv_bipush (v := nI 65) C.1 C.2.1 d_Model_digit_50 (by decide) ?_
            refine r_lt (tgt := 71) C d_Model_digit_52 (by decide) (by omega) (by omega) (fun h52 => ?_) (fun h52 => ?_)
            · skip
              refine lv_iconst (v := (-1)) C.1 C.2.1 d_Model_digit_71 (by decide) ?_
              exact r_iret C Z () (by clear C Z hl; unfold dgN at hv; (repeat' split at hv) <;> first | omega | exact ⟨by congr 1; omega, rfl⟩) rfl hQ d_Model_digit_72
            · skip
              refine lv_iload_n C.1 C.2.1 d_Model_digit_55 rfl (lv_at hl 0 rfl) ?_
              refine lv_bipush (v := nI 70) C.1 C.2.1 d_Model_digit_56 (by decide) ?_
              refine r_gt (tgt := 71) C d_Model_digit_58 (by decide) (by omega) (by omega) (fun h58 => ?_) (fun h58 => ?_)
              · skip
                refine lv_iconst (v := (-1)) C.1 C.2.1 d_Model_digit_71 (by decide) ?_
                exact r_iret C Z () (by clear C Z hl; unfold dgN at hv; (repeat' split at hv) <;> first | omega | exact ⟨by congr 1; omega, rfl⟩) rfl hQ d_Model_digit_72
              · skip
                refine lv_iload_n C.1 C.2.1 d_Model_digit_61 rfl (lv_at hl 0 rfl) ?_
                refine lv_bipush (v := nI 65) C.1 C.2.1 d_Model_digit_62 (by decide) ?_
                refine r_sub C (by omega) d_Model_digit_64 ?_
                refine lv_bipush (v := nI 10) C.1 C.2.1 d_Model_digit_65 (by decide) ?_
                refine r_add C d_Model_digit_67 ?_
                refine lv_goto (tgt := 72) C.1 C.2.1 d_Model_digit_68 (by decide) ?_
                exact r_iret C Z () (by clear C Z hl; unfold dgN at hv; (repeat' split at hv) <;> first | omega | exact ⟨by congr 1; omega, rfl⟩) rfl hQ d_Model_digit_72
        · skip
          refine lv_iload_n C.1 C.2.1 d_Model_digit_35 rfl (lv_at hl 0 rfl) ?_
          refine lv_bipush (v := nI 97) C.1 C.2.1 d_Model_digit_36 (by decide) ?_
          refine r_sub C (by omega) d_Model_digit_38 ?_
          refine lv_bipush (v := nI 10) C.1 C.2.1 d_Model_digit_39 (by decide) ?_
          refine r_add C d_Model_digit_41 ?_
          exact r_iret C Z () (by clear C Z hl; unfold dgN at hv; (repeat' split at hv) <;> first | omega | exact ⟨by congr 1; omega, rfl⟩) rfl hQ d_Model_digit_42
  · skip
    refine lv_iload_n C.1 C.2.1 d_Model_digit_6 rfl (lv_at hl 0 rfl) ?_
    refine lv_bipush (v := nI 57) C.1 C.2.1 d_Model_digit_7 (by decide) ?_
    refine r_gt (tgt := 17) C d_Model_digit_9 (by decide) (by omega) (by omega) (fun h9 => ?_) (fun h9 => ?_)
    · skip
      refine lv_iload_n C.1 C.2.1 d_Model_digit_17 rfl (lv_at hl 1 rfl) ?_
      refine lv_bipush (v := nI 16) C.1 C.2.1 d_Model_digit_18 (by decide) ?_
      refine r_ne (tgt := 43) C d_Model_digit_20 (by decide) (by omega) (by omega) (fun h20 => ?_) (fun h20 => ?_)
      · skip
        refine lv_iload_n C.1 C.2.1 d_Model_digit_43 rfl (lv_at hl 1 rfl) ?_
        refine lv_bipush (v := nI 16) C.1 C.2.1 d_Model_digit_44 (by decide) ?_
        refine r_ne (tgt := 71) C d_Model_digit_46 (by decide) (by omega) (by omega) (fun h46 => ?_) (fun h46 => ?_)
        · skip
          refine lv_iconst (v := (-1)) C.1 C.2.1 d_Model_digit_71 (by decide) ?_
          exact r_iret C Z () (by clear C Z hl; unfold dgN at hv; (repeat' split at hv) <;> first | omega | exact ⟨by congr 1; omega, rfl⟩) rfl hQ d_Model_digit_72
        · skip
          refine lv_iload_n C.1 C.2.1 d_Model_digit_49 rfl (lv_at hl 0 rfl) ?_
          refine lv_bipush (v := nI 65) C.1 C.2.1 d_Model_digit_50 (by decide) ?_
          refine r_lt (tgt := 71) C d_Model_digit_52 (by decide) (by omega) (by omega) (fun h52 => ?_) (fun h52 => ?_)
          · skip
            refine lv_iconst (v := (-1)) C.1 C.2.1 d_Model_digit_71 (by decide) ?_
            exact r_iret C Z () (by clear C Z hl; unfold dgN at hv; (repeat' split at hv) <;> first | omega | exact ⟨by congr 1; omega, rfl⟩) rfl hQ d_Model_digit_72
          · skip
            refine lv_iload_n C.1 C.2.1 d_Model_digit_55 rfl (lv_at hl 0 rfl) ?_
            refine lv_bipush (v := nI 70) C.1 C.2.1 d_Model_digit_56 (by decide) ?_
            refine r_gt (tgt := 71) C d_Model_digit_58 (by decide) (by omega) (by omega) (fun h58 => ?_) (fun h58 => ?_)
            · skip
              refine lv_iconst (v := (-1)) C.1 C.2.1 d_Model_digit_71 (by decide) ?_
              exact r_iret C Z () (by clear C Z hl; unfold dgN at hv; (repeat' split at hv) <;> first | omega | exact ⟨by congr 1; omega, rfl⟩) rfl hQ d_Model_digit_72
            · skip
              refine lv_iload_n C.1 C.2.1 d_Model_digit_61 rfl (lv_at hl 0 rfl) ?_
              refine lv_bipush (v := nI 65) C.1 C.2.1 d_Model_digit_62 (by decide) ?_
              refine r_sub C (by omega) d_Model_digit_64 ?_
              refine lv_bipush (v := nI 10) C.1 C.2.1 d_Model_digit_65 (by decide) ?_
              refine r_add C d_Model_digit_67 ?_
              refine lv_goto (tgt := 72) C.1 C.2.1 d_Model_digit_68 (by decide) ?_
              exact r_iret C Z () (by clear C Z hl; unfold dgN at hv; (repeat' split at hv) <;> first | omega | exact ⟨by congr 1; omega, rfl⟩) rfl hQ d_Model_digit_72
      · skip
        refine lv_iload_n C.1 C.2.1 d_Model_digit_23 rfl (lv_at hl 0 rfl) ?_
        refine lv_bipush (v := nI 97) C.1 C.2.1 d_Model_digit_24 (by decide) ?_
        refine r_lt (tgt := 43) C d_Model_digit_26 (by decide) (by omega) (by omega) (fun h26 => ?_) (fun h26 => ?_)
        · skip
          refine lv_iload_n C.1 C.2.1 d_Model_digit_43 rfl (lv_at hl 1 rfl) ?_
          refine lv_bipush (v := nI 16) C.1 C.2.1 d_Model_digit_44 (by decide) ?_
          refine r_ne (tgt := 71) C d_Model_digit_46 (by decide) (by omega) (by omega) (fun h46 => ?_) (fun h46 => ?_)
          · skip
            refine lv_iconst (v := (-1)) C.1 C.2.1 d_Model_digit_71 (by decide) ?_
            exact r_iret C Z () (by clear C Z hl; unfold dgN at hv; (repeat' split at hv) <;> first | omega | exact ⟨by congr 1; omega, rfl⟩) rfl hQ d_Model_digit_72
          · skip
            refine lv_iload_n C.1 C.2.1 d_Model_digit_49 rfl (lv_at hl 0 rfl) ?_
            refine lv_bipush (v := nI 65) C.1 C.2.1 d_Model_digit_50 (by decide) ?_
            refine r_lt (tgt := 71) C d_Model_digit_52 (by decide) (by omega) (by omega) (fun h52 => ?_) (fun h52 => ?_)
            · skip
              refine lv_iconst (v := (-1)) C.1 C.2.1 d_Model_digit_71 (by decide) ?_
              exact r_iret C Z () (by clear C Z hl; unfold dgN at hv; (repeat' split at hv) <;> first | omega | exact ⟨by congr 1; omega, rfl⟩) rfl hQ d_Model_digit_72
            · skip
              refine lv_iload_n C.1 C.2.1 d_Model_digit_55 rfl (lv_at hl 0 rfl) ?_
              refine lv_bipush (v := nI 70) C.1 C.2.1 d_Model_digit_56 (by decide) ?_
              refine r_gt (tgt := 71) C d_Model_digit_58 (by decide) (by omega) (by omega) (fun h58 => ?_) (fun h58 => ?_)
              · skip
                refine lv_iconst (v := (-1)) C.1 C.2.1 d_Model_digit_71 (by decide) ?_
                exact r_iret C Z () (by clear C Z hl; unfold dgN at hv; (repeat' split at hv) <;> first | omega | exact ⟨by congr 1; omega, rfl⟩) rfl hQ d_Model_digit_72
              · skip
                refine lv_iload_n C.1 C.2.1 d_Model_digit_61 rfl (lv_at hl 0 rfl) ?_
                refine lv_bipush (v := nI 65) C.1 C.2.1 d_Model_digit_62 (by decide) ?_
                refine r_sub C (by omega) d_Model_digit_64 ?_
                refine lv_bipush (v := nI 10) C.1 C.2.1 d_Model_digit_65 (by decide) ?_
                refine r_add C d_Model_digit_67 ?_
                refine lv_goto (tgt := 72) C.1 C.2.1 d_Model_digit_68 (by decide) ?_
                exact r_iret C Z () (by clear C Z hl; unfold dgN at hv; (repeat' split at hv) <;> first | omega | exact ⟨by congr 1; omega, rfl⟩) rfl hQ d_Model_digit_72
        · skip
          refine lv_iload_n C.1 C.2.1 d_Model_digit_29 rfl (lv_at hl 0 rfl) ?_
          refine lv_bipush (v := nI 102) C.1 C.2.1 d_Model_digit_30 (by decide) ?_
          refine r_gt (tgt := 43) C d_Model_digit_32 (by decide) (by omega) (by omega) (fun h32 => ?_) (fun h32 => ?_)
          · skip
            refine lv_iload_n C.1 C.2.1 d_Model_digit_43 rfl (lv_at hl 1 rfl) ?_
            refine lv_bipush (v := nI 16) C.1 C.2.1 d_Model_digit_44 (by decide) ?_
            refine r_ne (tgt := 71) C d_Model_digit_46 (by decide) (by omega) (by omega) (fun h46 => ?_) (fun h46 => ?_)
            · skip
              refine lv_iconst (v := (-1)) C.1 C.2.1 d_Model_digit_71 (by decide) ?_
              exact r_iret C Z () (by clear C Z hl; unfold dgN at hv; (repeat' split at hv) <;> first | omega | exact ⟨by congr 1; omega, rfl⟩) rfl hQ d_Model_digit_72
            · skip
              refine lv_iload_n C.1 C.2.1 d_Model_digit_49 rfl (lv_at hl 0 rfl) ?_
              refine lv_bipush (v := nI 65) C.1 C.2.1 d_Model_digit_50 (by decide) ?_
              refine r_lt (tgt := 71) C d_Model_digit_52 (by decide) (by omega) (by omega) (fun h52 => ?_) (fun h52 => ?_)
              · skip
                refine lv_iconst (v := (-1)) C.1 C.2.1 d_Model_digit_71 (by decide) ?_
                exact r_iret C Z () (by clear C Z hl; unfold dgN at hv; (repeat' split at hv) <;> first | omega | exact ⟨by congr 1; omega, rfl⟩) rfl hQ d_Model_digit_72
              · skip
                refine lv_iload_n C.1 C.2.1 d_Model_digit_55 rfl (lv_at hl 0 rfl) ?_
                refine lv_bipush (v := nI 70) C.1 C.2.1 d_Model_digit_56 (by decide) ?_
                refine r_gt (tgt := 71) C d_Model_digit_58 (by decide) (by omega) (by omega) (fun h58 => ?_) (fun h58 => ?_)
                · skip
                  refine lv_iconst (v := (-1)) C.1 C.2.1 d_Model_digit_71 (by decide) ?_
                  exact r_iret C Z () (by clear C Z hl; unfold dgN at hv; (repeat' split at hv) <;> first | omega | exact ⟨by congr 1; omega, rfl⟩) rfl hQ d_Model_digit_72
                · skip
                  refine lv_iload_n C.1 C.2.1 d_Model_digit_61 rfl (lv_at hl 0 rfl) ?_
                  refine lv_bipush (v := nI 65) C.1 C.2.1 d_Model_digit_62 (by decide) ?_
                  refine r_sub C (by omega) d_Model_digit_64 ?_
                  refine lv_bipush (v := nI 10) C.1 C.2.1 d_Model_digit_65 (by decide) ?_
                  refine r_add C d_Model_digit_67 ?_
                  refine lv_goto (tgt := 72) C.1 C.2.1 d_Model_digit_68 (by decide) ?_
                  exact r_iret C Z () (by clear C Z hl; unfold dgN at hv; (repeat' split at hv) <;> first | omega | exact ⟨by congr 1; omega, rfl⟩) rfl hQ d_Model_digit_72
          · skip
            refine lv_iload_n C.1 C.2.1 d_Model_digit_35 rfl (lv_at hl 0 rfl) ?_
            refine lv_bipush (v := nI 97) C.1 C.2.1 d_Model_digit_36 (by decide) ?_
            refine r_sub C (by omega) d_Model_digit_38 ?_
            refine lv_bipush (v := nI 10) C.1 C.2.1 d_Model_digit_39 (by decide) ?_
            refine r_add C d_Model_digit_41 ?_
            exact r_iret C Z () (by clear C Z hl; unfold dgN at hv; (repeat' split at hv) <;> first | omega | exact ⟨by congr 1; omega, rfl⟩) rfl hQ d_Model_digit_42
    · skip
      refine lv_iload_n C.1 C.2.1 d_Model_digit_12 rfl (lv_at hl 0 rfl) ?_
      refine lv_bipush (v := nI 48) C.1 C.2.1 d_Model_digit_13 (by decide) ?_
      refine r_sub C (by omega) d_Model_digit_15 ?_
      exact r_iret C Z () (by clear C Z hl; unfold dgN at hv; (repeat' split at hv) <;> first | omega | exact ⟨by congr 1; omega, rfl⟩) rfl hQ d_Model_digit_16

set_option maxHeartbeats 4000000 in
set_option maxRecDepth 100000 in
theorem c_Model_digit0 (l : Launch) (D : va_G) (cI cZ : ClassId) (c : Nat) (base : Nat) (hc : c < 256) (hb : base ≤ 16) (hv : dgN base c = 0) : Mi l y_Model_digit b_Model_digit 2 (some .int) ({ frames := 0, cells := 0, slots := 0, locals := 0 } : Room) D cI cZ [.int (nI c), .int (nI base)] [] (fun (r : Int32) (u : Unit) => r = (-1) ∧ u = ()) (fun u : Unit => []) := by
  refine Mi.intro (by decide) (Nat.le_of_ble_eq_true rfl) ?_
  intro p e s m args below meth cd A ls R Q hR hQ C Z hl
  have hl : lv_has ls 2 [(0, .int (nI c)), (1, .int (nI base))] := hl
  refine lv_iload_n C.1 C.2.1 d_Model_digit_0 rfl (lv_at hl 0 rfl) ?_
  refine lv_bipush (v := nI 48) C.1 C.2.1 d_Model_digit_1 (by decide) ?_
  refine r_lt (tgt := 17) C d_Model_digit_3 (by decide) (by omega) (by omega) (fun h3 => ?_) (fun h3 => ?_)
  · skip
    refine lv_iload_n C.1 C.2.1 d_Model_digit_17 rfl (lv_at hl 1 rfl) ?_
    refine lv_bipush (v := nI 16) C.1 C.2.1 d_Model_digit_18 (by decide) ?_
    refine r_ne (tgt := 43) C d_Model_digit_20 (by decide) (by omega) (by omega) (fun h20 => ?_) (fun h20 => ?_)
    · skip
      refine lv_iload_n C.1 C.2.1 d_Model_digit_43 rfl (lv_at hl 1 rfl) ?_
      refine lv_bipush (v := nI 16) C.1 C.2.1 d_Model_digit_44 (by decide) ?_
      refine r_ne (tgt := 71) C d_Model_digit_46 (by decide) (by omega) (by omega) (fun h46 => ?_) (fun h46 => ?_)
      · skip
        refine lv_iconst (v := (-1)) C.1 C.2.1 d_Model_digit_71 (by decide) ?_
        exact r_iret C Z () (by clear C Z hl; unfold dgN at hv; (repeat' split at hv) <;> first | omega | exact ⟨rfl, rfl⟩) rfl hQ d_Model_digit_72
      · skip
        refine lv_iload_n C.1 C.2.1 d_Model_digit_49 rfl (lv_at hl 0 rfl) ?_
        refine lv_bipush (v := nI 65) C.1 C.2.1 d_Model_digit_50 (by decide) ?_
        refine r_lt (tgt := 71) C d_Model_digit_52 (by decide) (by omega) (by omega) (fun h52 => ?_) (fun h52 => ?_)
        · skip
          refine lv_iconst (v := (-1)) C.1 C.2.1 d_Model_digit_71 (by decide) ?_
          exact r_iret C Z () (by clear C Z hl; unfold dgN at hv; (repeat' split at hv) <;> first | omega | exact ⟨rfl, rfl⟩) rfl hQ d_Model_digit_72
        · skip
          refine lv_iload_n C.1 C.2.1 d_Model_digit_55 rfl (lv_at hl 0 rfl) ?_
          refine lv_bipush (v := nI 70) C.1 C.2.1 d_Model_digit_56 (by decide) ?_
          refine r_gt (tgt := 71) C d_Model_digit_58 (by decide) (by omega) (by omega) (fun h58 => ?_) (fun h58 => ?_)
          · skip
            refine lv_iconst (v := (-1)) C.1 C.2.1 d_Model_digit_71 (by decide) ?_
            exact r_iret C Z () (by clear C Z hl; unfold dgN at hv; (repeat' split at hv) <;> first | omega | exact ⟨rfl, rfl⟩) rfl hQ d_Model_digit_72
          · skip
            refine lv_iload_n C.1 C.2.1 d_Model_digit_61 rfl (lv_at hl 0 rfl) ?_
            refine lv_bipush (v := nI 65) C.1 C.2.1 d_Model_digit_62 (by decide) ?_
            refine r_sub C (by omega) d_Model_digit_64 ?_
            refine lv_bipush (v := nI 10) C.1 C.2.1 d_Model_digit_65 (by decide) ?_
            refine r_add C d_Model_digit_67 ?_
            refine lv_goto (tgt := 72) C.1 C.2.1 d_Model_digit_68 (by decide) ?_
            exact r_iret C Z () (by clear C Z hl; unfold dgN at hv; (repeat' split at hv) <;> first | omega | exact ⟨rfl, rfl⟩) rfl hQ d_Model_digit_72
    · skip
      refine lv_iload_n C.1 C.2.1 d_Model_digit_23 rfl (lv_at hl 0 rfl) ?_
      refine lv_bipush (v := nI 97) C.1 C.2.1 d_Model_digit_24 (by decide) ?_
      refine r_lt (tgt := 43) C d_Model_digit_26 (by decide) (by omega) (by omega) (fun h26 => ?_) (fun h26 => ?_)
      · skip
        refine lv_iload_n C.1 C.2.1 d_Model_digit_43 rfl (lv_at hl 1 rfl) ?_
        refine lv_bipush (v := nI 16) C.1 C.2.1 d_Model_digit_44 (by decide) ?_
        refine r_ne (tgt := 71) C d_Model_digit_46 (by decide) (by omega) (by omega) (fun h46 => ?_) (fun h46 => ?_)
        · skip
          refine lv_iconst (v := (-1)) C.1 C.2.1 d_Model_digit_71 (by decide) ?_
          exact r_iret C Z () (by clear C Z hl; unfold dgN at hv; (repeat' split at hv) <;> first | omega | exact ⟨rfl, rfl⟩) rfl hQ d_Model_digit_72
        · skip
          refine lv_iload_n C.1 C.2.1 d_Model_digit_49 rfl (lv_at hl 0 rfl) ?_
          refine lv_bipush (v := nI 65) C.1 C.2.1 d_Model_digit_50 (by decide) ?_
          refine r_lt (tgt := 71) C d_Model_digit_52 (by decide) (by omega) (by omega) (fun h52 => ?_) (fun h52 => ?_)
          · skip
            refine lv_iconst (v := (-1)) C.1 C.2.1 d_Model_digit_71 (by decide) ?_
            exact r_iret C Z () (by clear C Z hl; unfold dgN at hv; (repeat' split at hv) <;> first | omega | exact ⟨rfl, rfl⟩) rfl hQ d_Model_digit_72
          · skip
            refine lv_iload_n C.1 C.2.1 d_Model_digit_55 rfl (lv_at hl 0 rfl) ?_
            refine lv_bipush (v := nI 70) C.1 C.2.1 d_Model_digit_56 (by decide) ?_
            refine r_gt (tgt := 71) C d_Model_digit_58 (by decide) (by omega) (by omega) (fun h58 => ?_) (fun h58 => ?_)
            · skip
              refine lv_iconst (v := (-1)) C.1 C.2.1 d_Model_digit_71 (by decide) ?_
              exact r_iret C Z () (by clear C Z hl; unfold dgN at hv; (repeat' split at hv) <;> first | omega | exact ⟨rfl, rfl⟩) rfl hQ d_Model_digit_72
            · skip
              refine lv_iload_n C.1 C.2.1 d_Model_digit_61 rfl (lv_at hl 0 rfl) ?_
              refine lv_bipush (v := nI 65) C.1 C.2.1 d_Model_digit_62 (by decide) ?_
              refine r_sub C (by omega) d_Model_digit_64 ?_
              refine lv_bipush (v := nI 10) C.1 C.2.1 d_Model_digit_65 (by decide) ?_
              refine r_add C d_Model_digit_67 ?_
              refine lv_goto (tgt := 72) C.1 C.2.1 d_Model_digit_68 (by decide) ?_
              exact r_iret C Z () (by clear C Z hl; unfold dgN at hv; (repeat' split at hv) <;> first | omega | exact ⟨rfl, rfl⟩) rfl hQ d_Model_digit_72
      · skip
        refine lv_iload_n C.1 C.2.1 d_Model_digit_29 rfl (lv_at hl 0 rfl) ?_
        refine lv_bipush (v := nI 102) C.1 C.2.1 d_Model_digit_30 (by decide) ?_
        refine r_gt (tgt := 43) C d_Model_digit_32 (by decide) (by omega) (by omega) (fun h32 => ?_) (fun h32 => ?_)
        · skip
          refine lv_iload_n C.1 C.2.1 d_Model_digit_43 rfl (lv_at hl 1 rfl) ?_
          refine lv_bipush (v := nI 16) C.1 C.2.1 d_Model_digit_44 (by decide) ?_
          refine r_ne (tgt := 71) C d_Model_digit_46 (by decide) (by omega) (by omega) (fun h46 => ?_) (fun h46 => ?_)
          · skip
            refine lv_iconst (v := (-1)) C.1 C.2.1 d_Model_digit_71 (by decide) ?_
            exact r_iret C Z () (by clear C Z hl; unfold dgN at hv; (repeat' split at hv) <;> first | omega | exact ⟨rfl, rfl⟩) rfl hQ d_Model_digit_72
          · skip
            refine lv_iload_n C.1 C.2.1 d_Model_digit_49 rfl (lv_at hl 0 rfl) ?_
            refine lv_bipush (v := nI 65) C.1 C.2.1 d_Model_digit_50 (by decide) ?_
            refine r_lt (tgt := 71) C d_Model_digit_52 (by decide) (by omega) (by omega) (fun h52 => ?_) (fun h52 => ?_)
            · skip
              refine lv_iconst (v := (-1)) C.1 C.2.1 d_Model_digit_71 (by decide) ?_
              exact r_iret C Z () (by clear C Z hl; unfold dgN at hv; (repeat' split at hv) <;> first | omega | exact ⟨rfl, rfl⟩) rfl hQ d_Model_digit_72
            · skip
              refine lv_iload_n C.1 C.2.1 d_Model_digit_55 rfl (lv_at hl 0 rfl) ?_
              refine lv_bipush (v := nI 70) C.1 C.2.1 d_Model_digit_56 (by decide) ?_
              refine r_gt (tgt := 71) C d_Model_digit_58 (by decide) (by omega) (by omega) (fun h58 => ?_) (fun h58 => ?_)
              · skip
                refine lv_iconst (v := (-1)) C.1 C.2.1 d_Model_digit_71 (by decide) ?_
                exact r_iret C Z () (by clear C Z hl; unfold dgN at hv; (repeat' split at hv) <;> first | omega | exact ⟨rfl, rfl⟩) rfl hQ d_Model_digit_72
              · skip
                refine lv_iload_n C.1 C.2.1 d_Model_digit_61 rfl (lv_at hl 0 rfl) ?_
                refine lv_bipush (v := nI 65) C.1 C.2.1 d_Model_digit_62 (by decide) ?_
                refine r_sub C (by omega) d_Model_digit_64 ?_
                refine lv_bipush (v := nI 10) C.1 C.2.1 d_Model_digit_65 (by decide) ?_
                refine r_add C d_Model_digit_67 ?_
                refine lv_goto (tgt := 72) C.1 C.2.1 d_Model_digit_68 (by decide) ?_
                exact r_iret C Z () (by clear C Z hl; unfold dgN at hv; (repeat' split at hv) <;> first | omega | exact ⟨rfl, rfl⟩) rfl hQ d_Model_digit_72
        · skip
          refine lv_iload_n C.1 C.2.1 d_Model_digit_35 rfl (lv_at hl 0 rfl) ?_
          refine lv_bipush (v := nI 97) C.1 C.2.1 d_Model_digit_36 (by decide) ?_
          refine r_sub C (by omega) d_Model_digit_38 ?_
          refine lv_bipush (v := nI 10) C.1 C.2.1 d_Model_digit_39 (by decide) ?_
          refine r_add C d_Model_digit_41 ?_
          exact r_iret C Z () (by clear C Z hl; unfold dgN at hv; (repeat' split at hv) <;> first | omega | exact ⟨rfl, rfl⟩) rfl hQ d_Model_digit_42
  · skip
    refine lv_iload_n C.1 C.2.1 d_Model_digit_6 rfl (lv_at hl 0 rfl) ?_
    refine lv_bipush (v := nI 57) C.1 C.2.1 d_Model_digit_7 (by decide) ?_
    refine r_gt (tgt := 17) C d_Model_digit_9 (by decide) (by omega) (by omega) (fun h9 => ?_) (fun h9 => ?_)
    · skip
      refine lv_iload_n C.1 C.2.1 d_Model_digit_17 rfl (lv_at hl 1 rfl) ?_
      refine lv_bipush (v := nI 16) C.1 C.2.1 d_Model_digit_18 (by decide) ?_
      refine r_ne (tgt := 43) C d_Model_digit_20 (by decide) (by omega) (by omega) (fun h20 => ?_) (fun h20 => ?_)
      · skip
        refine lv_iload_n C.1 C.2.1 d_Model_digit_43 rfl (lv_at hl 1 rfl) ?_
        refine lv_bipush (v := nI 16) C.1 C.2.1 d_Model_digit_44 (by decide) ?_
        refine r_ne (tgt := 71) C d_Model_digit_46 (by decide) (by omega) (by omega) (fun h46 => ?_) (fun h46 => ?_)
        · skip
          refine lv_iconst (v := (-1)) C.1 C.2.1 d_Model_digit_71 (by decide) ?_
          exact r_iret C Z () (by clear C Z hl; unfold dgN at hv; (repeat' split at hv) <;> first | omega | exact ⟨rfl, rfl⟩) rfl hQ d_Model_digit_72
        · skip
          refine lv_iload_n C.1 C.2.1 d_Model_digit_49 rfl (lv_at hl 0 rfl) ?_
          refine lv_bipush (v := nI 65) C.1 C.2.1 d_Model_digit_50 (by decide) ?_
          refine r_lt (tgt := 71) C d_Model_digit_52 (by decide) (by omega) (by omega) (fun h52 => ?_) (fun h52 => ?_)
          · skip
            refine lv_iconst (v := (-1)) C.1 C.2.1 d_Model_digit_71 (by decide) ?_
            exact r_iret C Z () (by clear C Z hl; unfold dgN at hv; (repeat' split at hv) <;> first | omega | exact ⟨rfl, rfl⟩) rfl hQ d_Model_digit_72
          · skip
            refine lv_iload_n C.1 C.2.1 d_Model_digit_55 rfl (lv_at hl 0 rfl) ?_
            refine lv_bipush (v := nI 70) C.1 C.2.1 d_Model_digit_56 (by decide) ?_
            refine r_gt (tgt := 71) C d_Model_digit_58 (by decide) (by omega) (by omega) (fun h58 => ?_) (fun h58 => ?_)
            · skip
              refine lv_iconst (v := (-1)) C.1 C.2.1 d_Model_digit_71 (by decide) ?_
              exact r_iret C Z () (by clear C Z hl; unfold dgN at hv; (repeat' split at hv) <;> first | omega | exact ⟨rfl, rfl⟩) rfl hQ d_Model_digit_72
            · skip
              refine lv_iload_n C.1 C.2.1 d_Model_digit_61 rfl (lv_at hl 0 rfl) ?_
              refine lv_bipush (v := nI 65) C.1 C.2.1 d_Model_digit_62 (by decide) ?_
              refine r_sub C (by omega) d_Model_digit_64 ?_
              refine lv_bipush (v := nI 10) C.1 C.2.1 d_Model_digit_65 (by decide) ?_
              refine r_add C d_Model_digit_67 ?_
              refine lv_goto (tgt := 72) C.1 C.2.1 d_Model_digit_68 (by decide) ?_
              exact r_iret C Z () (by clear C Z hl; unfold dgN at hv; (repeat' split at hv) <;> first | omega | exact ⟨rfl, rfl⟩) rfl hQ d_Model_digit_72
      · skip
        refine lv_iload_n C.1 C.2.1 d_Model_digit_23 rfl (lv_at hl 0 rfl) ?_
        refine lv_bipush (v := nI 97) C.1 C.2.1 d_Model_digit_24 (by decide) ?_
        refine r_lt (tgt := 43) C d_Model_digit_26 (by decide) (by omega) (by omega) (fun h26 => ?_) (fun h26 => ?_)
        · skip
          refine lv_iload_n C.1 C.2.1 d_Model_digit_43 rfl (lv_at hl 1 rfl) ?_
          refine lv_bipush (v := nI 16) C.1 C.2.1 d_Model_digit_44 (by decide) ?_
          refine r_ne (tgt := 71) C d_Model_digit_46 (by decide) (by omega) (by omega) (fun h46 => ?_) (fun h46 => ?_)
          · skip
            refine lv_iconst (v := (-1)) C.1 C.2.1 d_Model_digit_71 (by decide) ?_
            exact r_iret C Z () (by clear C Z hl; unfold dgN at hv; (repeat' split at hv) <;> first | omega | exact ⟨rfl, rfl⟩) rfl hQ d_Model_digit_72
          · skip
            refine lv_iload_n C.1 C.2.1 d_Model_digit_49 rfl (lv_at hl 0 rfl) ?_
            refine lv_bipush (v := nI 65) C.1 C.2.1 d_Model_digit_50 (by decide) ?_
            refine r_lt (tgt := 71) C d_Model_digit_52 (by decide) (by omega) (by omega) (fun h52 => ?_) (fun h52 => ?_)
            · skip
              refine lv_iconst (v := (-1)) C.1 C.2.1 d_Model_digit_71 (by decide) ?_
              exact r_iret C Z () (by clear C Z hl; unfold dgN at hv; (repeat' split at hv) <;> first | omega | exact ⟨rfl, rfl⟩) rfl hQ d_Model_digit_72
            · skip
              refine lv_iload_n C.1 C.2.1 d_Model_digit_55 rfl (lv_at hl 0 rfl) ?_
              refine lv_bipush (v := nI 70) C.1 C.2.1 d_Model_digit_56 (by decide) ?_
              refine r_gt (tgt := 71) C d_Model_digit_58 (by decide) (by omega) (by omega) (fun h58 => ?_) (fun h58 => ?_)
              · skip
                refine lv_iconst (v := (-1)) C.1 C.2.1 d_Model_digit_71 (by decide) ?_
                exact r_iret C Z () (by clear C Z hl; unfold dgN at hv; (repeat' split at hv) <;> first | omega | exact ⟨rfl, rfl⟩) rfl hQ d_Model_digit_72
              · skip
                refine lv_iload_n C.1 C.2.1 d_Model_digit_61 rfl (lv_at hl 0 rfl) ?_
                refine lv_bipush (v := nI 65) C.1 C.2.1 d_Model_digit_62 (by decide) ?_
                refine r_sub C (by omega) d_Model_digit_64 ?_
                refine lv_bipush (v := nI 10) C.1 C.2.1 d_Model_digit_65 (by decide) ?_
                refine r_add C d_Model_digit_67 ?_
                refine lv_goto (tgt := 72) C.1 C.2.1 d_Model_digit_68 (by decide) ?_
                exact r_iret C Z () (by clear C Z hl; unfold dgN at hv; (repeat' split at hv) <;> first | omega | exact ⟨rfl, rfl⟩) rfl hQ d_Model_digit_72
        · skip
          refine lv_iload_n C.1 C.2.1 d_Model_digit_29 rfl (lv_at hl 0 rfl) ?_
          refine lv_bipush (v := nI 102) C.1 C.2.1 d_Model_digit_30 (by decide) ?_
          refine r_gt (tgt := 43) C d_Model_digit_32 (by decide) (by omega) (by omega) (fun h32 => ?_) (fun h32 => ?_)
          · skip
            refine lv_iload_n C.1 C.2.1 d_Model_digit_43 rfl (lv_at hl 1 rfl) ?_
            refine lv_bipush (v := nI 16) C.1 C.2.1 d_Model_digit_44 (by decide) ?_
            refine r_ne (tgt := 71) C d_Model_digit_46 (by decide) (by omega) (by omega) (fun h46 => ?_) (fun h46 => ?_)
            · skip
              refine lv_iconst (v := (-1)) C.1 C.2.1 d_Model_digit_71 (by decide) ?_
              exact r_iret C Z () (by clear C Z hl; unfold dgN at hv; (repeat' split at hv) <;> first | omega | exact ⟨rfl, rfl⟩) rfl hQ d_Model_digit_72
            · skip
              refine lv_iload_n C.1 C.2.1 d_Model_digit_49 rfl (lv_at hl 0 rfl) ?_
              refine lv_bipush (v := nI 65) C.1 C.2.1 d_Model_digit_50 (by decide) ?_
              refine r_lt (tgt := 71) C d_Model_digit_52 (by decide) (by omega) (by omega) (fun h52 => ?_) (fun h52 => ?_)
              · skip
                refine lv_iconst (v := (-1)) C.1 C.2.1 d_Model_digit_71 (by decide) ?_
                exact r_iret C Z () (by clear C Z hl; unfold dgN at hv; (repeat' split at hv) <;> first | omega | exact ⟨rfl, rfl⟩) rfl hQ d_Model_digit_72
              · skip
                refine lv_iload_n C.1 C.2.1 d_Model_digit_55 rfl (lv_at hl 0 rfl) ?_
                refine lv_bipush (v := nI 70) C.1 C.2.1 d_Model_digit_56 (by decide) ?_
                refine r_gt (tgt := 71) C d_Model_digit_58 (by decide) (by omega) (by omega) (fun h58 => ?_) (fun h58 => ?_)
                · skip
                  refine lv_iconst (v := (-1)) C.1 C.2.1 d_Model_digit_71 (by decide) ?_
                  exact r_iret C Z () (by clear C Z hl; unfold dgN at hv; (repeat' split at hv) <;> first | omega | exact ⟨rfl, rfl⟩) rfl hQ d_Model_digit_72
                · skip
                  refine lv_iload_n C.1 C.2.1 d_Model_digit_61 rfl (lv_at hl 0 rfl) ?_
                  refine lv_bipush (v := nI 65) C.1 C.2.1 d_Model_digit_62 (by decide) ?_
                  refine r_sub C (by omega) d_Model_digit_64 ?_
                  refine lv_bipush (v := nI 10) C.1 C.2.1 d_Model_digit_65 (by decide) ?_
                  refine r_add C d_Model_digit_67 ?_
                  refine lv_goto (tgt := 72) C.1 C.2.1 d_Model_digit_68 (by decide) ?_
                  exact r_iret C Z () (by clear C Z hl; unfold dgN at hv; (repeat' split at hv) <;> first | omega | exact ⟨rfl, rfl⟩) rfl hQ d_Model_digit_72
          · skip
            refine lv_iload_n C.1 C.2.1 d_Model_digit_35 rfl (lv_at hl 0 rfl) ?_
            refine lv_bipush (v := nI 97) C.1 C.2.1 d_Model_digit_36 (by decide) ?_
            refine r_sub C (by omega) d_Model_digit_38 ?_
            refine lv_bipush (v := nI 10) C.1 C.2.1 d_Model_digit_39 (by decide) ?_
            refine r_add C d_Model_digit_41 ?_
            exact r_iret C Z () (by clear C Z hl; unfold dgN at hv; (repeat' split at hv) <;> first | omega | exact ⟨rfl, rfl⟩) rfl hQ d_Model_digit_42
    · skip
      refine lv_iload_n C.1 C.2.1 d_Model_digit_12 rfl (lv_at hl 0 rfl) ?_
      refine lv_bipush (v := nI 48) C.1 C.2.1 d_Model_digit_13 (by decide) ?_
      refine r_sub C (by omega) d_Model_digit_15 ?_
      exact r_iret C Z () (by clear C Z hl; unfold dgN at hv; (repeat' split at hv) <;> first | omega | exact ⟨rfl, rfl⟩) rfl hQ d_Model_digit_16

set_option maxHeartbeats 4000000 in
set_option maxRecDepth 100000 in
theorem c_Model_digitM (l : Launch) (D : va_G) (cI cZ : ClassId) (base : Nat) (hb : base ≤ 16) : Mi l y_Model_digit b_Model_digit 2 (some .int) ({ frames := 0, cells := 0, slots := 0, locals := 0 } : Room) D cI cZ [.int (-1), .int (nI base)] [] (fun (r : Int32) (u : Unit) => r = (-1) ∧ u = ()) (fun u : Unit => []) := by
  refine Mi.intro (by decide) (Nat.le_of_ble_eq_true rfl) ?_
  intro p e s m args below meth cd A ls R Q hR hQ C Z hl
  have hl : lv_has ls 2 [(0, .int (-1)), (1, .int (nI base))] := hl
  refine lv_iload_n C.1 C.2.1 d_Model_digit_0 rfl (lv_at hl 0 rfl) ?_
  refine lv_bipush (v := nI 48) C.1 C.2.1 d_Model_digit_1 (by decide) ?_
  refine lv_icmp_lt (tgt := 17) C.1 C.2.1 d_Model_digit_3 (by decide) (fun h3 => ?_) (fun h3 => absurd h3 (by decide))
  refine lv_iload_n C.1 C.2.1 d_Model_digit_17 rfl (lv_at hl 1 rfl) ?_
  refine lv_bipush (v := nI 16) C.1 C.2.1 d_Model_digit_18 (by decide) ?_
  refine r_ne (tgt := 43) C d_Model_digit_20 (by decide) (by omega) (by omega) (fun h20 => ?_) (fun h20 => ?_)
  · skip
    refine lv_iload_n C.1 C.2.1 d_Model_digit_43 rfl (lv_at hl 1 rfl) ?_
    refine lv_bipush (v := nI 16) C.1 C.2.1 d_Model_digit_44 (by decide) ?_
    refine r_ne (tgt := 71) C d_Model_digit_46 (by decide) (by omega) (by omega) (fun h46 => ?_) (fun h46 => ?_)
    · skip
      refine lv_iconst (v := (-1)) C.1 C.2.1 d_Model_digit_71 (by decide) ?_
      exact r_iret C Z () (by first | exact ⟨rfl, rfl⟩ | (clear C Z hl; simp [h3, h20, h46]; done) | (clear C Z hl; grind)) rfl hQ d_Model_digit_72
    · skip
      refine lv_iload_n C.1 C.2.1 d_Model_digit_49 rfl (lv_at hl 0 rfl) ?_
      refine lv_bipush (v := nI 65) C.1 C.2.1 d_Model_digit_50 (by decide) ?_
      refine lv_icmp_lt (tgt := 71) C.1 C.2.1 d_Model_digit_52 (by decide) (fun h52 => ?_) (fun h52 => absurd h52 (by decide))
      refine lv_iconst (v := (-1)) C.1 C.2.1 d_Model_digit_71 (by decide) ?_
      exact r_iret C Z () (by first | exact ⟨rfl, rfl⟩ | (clear C Z hl; simp [h3, h20, h46, h52]; done) | (clear C Z hl; grind)) rfl hQ d_Model_digit_72
  · skip
    refine lv_iload_n C.1 C.2.1 d_Model_digit_23 rfl (lv_at hl 0 rfl) ?_
    refine lv_bipush (v := nI 97) C.1 C.2.1 d_Model_digit_24 (by decide) ?_
    refine lv_icmp_lt (tgt := 43) C.1 C.2.1 d_Model_digit_26 (by decide) (fun h26 => ?_) (fun h26 => absurd h26 (by decide))
    refine lv_iload_n C.1 C.2.1 d_Model_digit_43 rfl (lv_at hl 1 rfl) ?_
    refine lv_bipush (v := nI 16) C.1 C.2.1 d_Model_digit_44 (by decide) ?_
    refine r_ne (tgt := 71) C d_Model_digit_46 (by decide) (by omega) (by omega) (fun h46 => ?_) (fun h46 => ?_)
    · skip
      refine lv_iconst (v := (-1)) C.1 C.2.1 d_Model_digit_71 (by decide) ?_
      exact r_iret C Z () (by first | exact ⟨rfl, rfl⟩ | (clear C Z hl; simp [h3, h20, h26, h46]; done) | (clear C Z hl; grind)) rfl hQ d_Model_digit_72
    · skip
      refine lv_iload_n C.1 C.2.1 d_Model_digit_49 rfl (lv_at hl 0 rfl) ?_
      refine lv_bipush (v := nI 65) C.1 C.2.1 d_Model_digit_50 (by decide) ?_
      refine lv_icmp_lt (tgt := 71) C.1 C.2.1 d_Model_digit_52 (by decide) (fun h52 => ?_) (fun h52 => absurd h52 (by decide))
      refine lv_iconst (v := (-1)) C.1 C.2.1 d_Model_digit_71 (by decide) ?_
      exact r_iret C Z () (by first | exact ⟨rfl, rfl⟩ | (clear C Z hl; simp [h3, h20, h26, h46, h52]; done) | (clear C Z hl; grind)) rfl hQ d_Model_digit_72

set_option maxHeartbeats 4000000 in
set_option maxRecDepth 100000 in
theorem c_Model_broken0 (l : Launch) (D : va_G) (cI cZ : ClassId) (mA ha tA bA eA zA wA pA oA : Nat) (n : Nat) (us : Nat) (en : Int32) (lf : Nat) (dp : Nat) (nx : Nat) (ou : Nat) (os : Nat) (fi : Nat) (me : Nat) (pu : Int32) (de : Nat) (fa : Nat) (pl : Int32) (na : Int32) (num : Int64) (rw : Nat → Int32) (stk : List Nat) (hrow : Row rw stk) (hlf : lf = stk.length) (hl26 : lf ≤ 2600) (hpk : pkN stk = 0) (hmk : ∀ x ∈ stk, x < 300) (hdp : dp ≤ 12) : Mi l y_Model_broken b_Model_broken 1 (some .int) ({ frames := 1, cells := 0, slots := 0, locals := 22 } : Room) D cI cZ [.ref mA] [(mA, .inr (3, [.ref ha, .int (nI n), .ref tA, .int (nI us), .ref bA, .ref eA, .ref zA, .int en, .ref wA, .int (nI lf), .ref pA, .int (nI dp), .int (nI nx), .int (nI ou), .ref oA, .int (nI os), .int (nI fi), .int (nI me), .int pu, .int (nI de), .int (nI fa), .int pl, .int na, .long num])), (wA, .inl (cI, 2600, .inl rw))] (fun (r : Int32) (u : Nat × Int32) => r = (-1) ∧ u = (if 0 < dp then 13 else 2, plP dp ou (nI nx))) (fun u : Nat × Int32 => [(mA, .inr (3, [.ref ha, .int (nI n), .ref tA, .int (nI us), .ref bA, .ref eA, .ref zA, .int en, .ref wA, .int (nI lf), .ref pA, .int (nI dp), .int (nI nx), .int (nI ou), .ref oA, .int (nI os), .int (nI fi), .int (nI me), .int pu, .int (nI de), .int (nI u.1), .int u.2, .int na, .long num])), (wA, .inl (cI, 2600, .inl rw))]) := by
  refine Mi.intro (by decide) (Nat.le_of_ble_eq_true rfl) ?_
  intro p e s m args below meth cd A ls R Q hR hQ C Z hl
  have hl : lv_has ls 1 [(0, .ref mA)] := hl
  refine lv_aload_n C.1 C.2.1 d_Model_broken_0 rfl (lv_at hl 0 rfl) ?_
  refine r_get C Z 0 f_Model_47 rfl rfl d_Model_broken_1 ?_
  refine r_zle (tgt := 24) C d_Model_broken_4 (by decide) (by omega) (fun h4 => ?_) (fun h4 => ?_)
  · skip
    refine lv_aload_n C.1 C.2.1 d_Model_broken_24 rfl (lv_at hl 0 rfl) ?_
    refine lv_iconst (v := nI 2) C.1 C.2.1 d_Model_broken_25 (by decide) ?_
    refine lv_aload_n C.1 C.2.1 d_Model_broken_26 rfl (lv_at hl 0 rfl) ?_
    refine r_get C Z 0 f_Model_56 rfl rfl d_Model_broken_27 ?_
    refine r_callVi (rest := []) (wr := [(wA, .inl (cI, 2600, .inl rw))]) (wn := fun u => [(mA, .inr (3, [.ref ha, .int (nI n), .ref tA, .int (nI us), .ref bA, .ref eA, .ref zA, .int en, .ref wA, .int (nI lf), .ref pA, .int (nI dp), .int (nI nx), .int (nI ou), .ref oA, .int (nI os), .int (nI fi), .int (nI me), .int pu, .int (nI de), .int (nI u.1), .int u.2, .int na, .long num])), (wA, .inl (cI, 2600, .inl rw))]) C Z (c_Model_fail l D cI cZ mA ha tA bA eA zA wA pA oA n us en lf dp nx ou os fi me pu de fa pl na num 2 (nI nx) (by first | assumption | omega)) k_Model_63 rfl ⟨by rw [hR]; decide, by rw [hR]; decide⟩ ⟨rfl, rfl⟩ [0] [1] [1, 0] (by decide) rfl rfl (by decide) (by decide) (by decide) (fun _ => rfl) 0 rfl rfl hl.1 rfl (Nat.le_of_ble_eq_true rfl) d_Model_broken_30 ⟨Nat.zero_le _, Nat.zero_le _⟩ (fun r u H locs hp Z => ?_)
    obtain ⟨hp1, hp2⟩ := hp; have hp1 := hp1.symm; have hp2 := hp2.symm; subst hp1; subst hp2
    have Z : Wd D A s.heap [(mA, .inr (3, [.ref ha, .int (nI n), .ref tA, .int (nI us), .ref bA, .ref eA, .ref zA, .int en, .ref wA, .int (nI lf), .ref pA, .int (nI dp), .int (nI nx), .int (nI ou), .ref oA, .int (nI os), .int (nI fi), .int (nI me), .int pu, .int (nI de), .int (nI 2), .int (plP dp ou (nI nx)), .int na, .long num])), (wA, .inl (cI, 2600, .inl rw))] H locs := Z
    exact r_iret C Z (2, plP dp ou (nI nx)) (by refine ⟨rfl, ?_⟩; first | rfl | (rw [if_pos (by omega)]; unfold plP; rw [if_pos (by omega)]; rfl) | (rw [if_pos (by omega)]; unfold plP; rw [if_pos (by omega), if_pos (by omega)]) | (rw [if_neg (by omega)])) rfl hQ d_Model_broken_33
  · skip
    refine lv_aload_n C.1 C.2.1 d_Model_broken_7 rfl (lv_at hl 0 rfl) ?_
    refine r_callVi (rest := []) (wr := []) (wn := fun u => [(mA, .inr (3, [.ref ha, .int (nI n), .ref tA, .int (nI us), .ref bA, .ref eA, .ref zA, .int en, .ref wA, .int (nI lf), .ref pA, .int (nI dp), .int (nI nx), .int (nI ou), .ref oA, .int (nI os), .int (nI fi), .int (nI me), .int pu, .int (nI de), .int (nI fa), .int pl, .int na, .long num])), (wA, .inl (cI, 2600, .inl rw))]) C Z (c_Model_peek0 l D cI cZ mA ha tA bA eA zA wA pA oA n us en lf dp nx ou os fi me pu de fa pl na num rw stk (by first | assumption | omega) (by first | assumption | omega) (by first | assumption | omega) (by first | assumption | omega) (by first | assumption | omega)) k_Model_59 rfl ⟨by rw [hR]; decide, by rw [hR]; decide⟩ ⟨rfl, rfl⟩ [0, 1] [] [0, 1] (by decide) rfl rfl (by decide) (by decide) (by decide) (fun _ => rfl) 0 rfl rfl hl.1 rfl (Nat.le_of_ble_eq_true rfl) d_Model_broken_8 ⟨Nat.zero_le _, Nat.zero_le _⟩ (fun r u H locs hp Z => ?_)
    obtain ⟨hp1, hp2⟩ := hp; have hp1 := hp1.symm; have hp2 := hp2.symm; subst hp1; subst hp2
    have Z : Wd D A s.heap [(mA, .inr (3, [.ref ha, .int (nI n), .ref tA, .int (nI us), .ref bA, .ref eA, .ref zA, .int en, .ref wA, .int (nI lf), .ref pA, .int (nI dp), .int (nI nx), .int (nI ou), .ref oA, .int (nI os), .int (nI fi), .int (nI me), .int pu, .int (nI de), .int (nI fa), .int pl, .int na, .long num])), (wA, .inl (cI, 2600, .inl rw))] H locs := Z
    refine lv_if_ge (tgt := 24) C.1 C.2.1 d_Model_broken_11 (by decide) (fun h11 => absurd h11 (by decide)) (fun h11 => ?_)
    refine lv_aload_n C.1 C.2.1 d_Model_broken_14 rfl (lv_at hl 0 rfl) ?_
    refine lv_bipush (v := nI 13) C.1 C.2.1 d_Model_broken_15 (by decide) ?_
    refine lv_iconst (v := nI 0) C.1 C.2.1 d_Model_broken_17 (by decide) ?_
    refine r_callVi (rest := []) (wr := [(wA, .inl (cI, 2600, .inl rw))]) (wn := fun u => [(mA, .inr (3, [.ref ha, .int (nI n), .ref tA, .int (nI us), .ref bA, .ref eA, .ref zA, .int en, .ref wA, .int (nI lf), .ref pA, .int (nI dp), .int (nI nx), .int (nI ou), .ref oA, .int (nI os), .int (nI fi), .int (nI me), .int pu, .int (nI de), .int (nI u.1), .int u.2, .int na, .long num])), (wA, .inl (cI, 2600, .inl rw))]) C Z (c_Model_fail l D cI cZ mA ha tA bA eA zA wA pA oA n us en lf dp nx ou os fi me pu de fa pl na num 13 (nI 0) (by first | assumption | omega)) k_Model_63 rfl ⟨by rw [hR]; decide, by rw [hR]; decide⟩ ⟨rfl, rfl⟩ [0] [1] [1, 0] (by decide) rfl rfl (by decide) (by decide) (by decide) (fun _ => rfl) 0 rfl rfl hl.1 rfl (Nat.le_of_ble_eq_true rfl) d_Model_broken_18 ⟨Nat.zero_le _, Nat.zero_le _⟩ (fun r u H locs hp Z => ?_)
    obtain ⟨hp1, hp2⟩ := hp; have hp1 := hp1.symm; have hp2 := hp2.symm; subst hp1; subst hp2
    have Z : Wd D A s.heap [(mA, .inr (3, [.ref ha, .int (nI n), .ref tA, .int (nI us), .ref bA, .ref eA, .ref zA, .int en, .ref wA, .int (nI lf), .ref pA, .int (nI dp), .int (nI nx), .int (nI ou), .ref oA, .int (nI os), .int (nI fi), .int (nI me), .int pu, .int (nI de), .int (nI 13), .int (plP dp ou (nI 0)), .int na, .long num])), (wA, .inl (cI, 2600, .inl rw))] H locs := Z
    refine lv_goto (tgt := 33) C.1 C.2.1 d_Model_broken_21 (by decide) ?_
    exact r_iret C Z (13, plP dp ou (nI 0)) (by refine ⟨rfl, ?_⟩; first | rfl | (rw [if_pos (by omega)]; unfold plP; rw [if_pos (by omega)]; rfl) | (rw [if_pos (by omega)]; unfold plP; rw [if_pos (by omega), if_pos (by omega)]) | (rw [if_neg (by omega)])) rfl hQ d_Model_broken_33

set_option maxHeartbeats 4000000 in
set_option maxRecDepth 100000 in
theorem c_Model_broken1 (l : Launch) (D : va_G) (cI cZ : ClassId) (mA ha tA bA eA zA wA pA oA : Nat) (n : Nat) (us : Nat) (en : Int32) (lf : Nat) (dp : Nat) (nx : Nat) (ou : Nat) (os : Nat) (fi : Nat) (me : Nat) (pu : Int32) (de : Nat) (fa : Nat) (pl : Int32) (na : Int32) (num : Int64) (rw : Nat → Int32) (stk : List Nat) (c : Nat) (hrow : Row rw stk) (hlf : lf = stk.length) (hl26 : lf ≤ 2600) (hpk : pkN stk = c + 1) (hdp : dp ≤ 12) : Mi l y_Model_broken b_Model_broken 1 (some .int) ({ frames := 1, cells := 0, slots := 0, locals := 22 } : Room) D cI cZ [.ref mA] [(mA, .inr (3, [.ref ha, .int (nI n), .ref tA, .int (nI us), .ref bA, .ref eA, .ref zA, .int en, .ref wA, .int (nI lf), .ref pA, .int (nI dp), .int (nI nx), .int (nI ou), .ref oA, .int (nI os), .int (nI fi), .int (nI me), .int pu, .int (nI de), .int (nI fa), .int pl, .int na, .long num])), (wA, .inl (cI, 2600, .inl rw))] (fun (r : Int32) (u : Nat × Int32) => r = (-1) ∧ u = (2, plP dp ou (nI nx))) (fun u : Nat × Int32 => [(mA, .inr (3, [.ref ha, .int (nI n), .ref tA, .int (nI us), .ref bA, .ref eA, .ref zA, .int en, .ref wA, .int (nI lf), .ref pA, .int (nI dp), .int (nI nx), .int (nI ou), .ref oA, .int (nI os), .int (nI fi), .int (nI me), .int pu, .int (nI de), .int (nI u.1), .int u.2, .int na, .long num])), (wA, .inl (cI, 2600, .inl rw))]) := by
  refine Mi.intro (by decide) (Nat.le_of_ble_eq_true rfl) ?_
  intro p e s m args below meth cd A ls R Q hR hQ C Z hl
  have hl : lv_has ls 1 [(0, .ref mA)] := hl
  obtain ⟨hx1, hx2, hx3⟩ := Row_top hrow hpk
  refine lv_aload_n C.1 C.2.1 d_Model_broken_0 rfl (lv_at hl 0 rfl) ?_
  refine r_get C Z 0 f_Model_47 rfl rfl d_Model_broken_1 ?_
  refine r_zle (tgt := 24) C d_Model_broken_4 (by decide) (by omega) (fun h4 => ?_) (fun h4 => ?_)
  · skip
    refine lv_aload_n C.1 C.2.1 d_Model_broken_24 rfl (lv_at hl 0 rfl) ?_
    refine lv_iconst (v := nI 2) C.1 C.2.1 d_Model_broken_25 (by decide) ?_
    refine lv_aload_n C.1 C.2.1 d_Model_broken_26 rfl (lv_at hl 0 rfl) ?_
    refine r_get C Z 0 f_Model_56 rfl rfl d_Model_broken_27 ?_
    refine r_callVi (rest := []) (wr := [(wA, .inl (cI, 2600, .inl rw))]) (wn := fun u => [(mA, .inr (3, [.ref ha, .int (nI n), .ref tA, .int (nI us), .ref bA, .ref eA, .ref zA, .int en, .ref wA, .int (nI lf), .ref pA, .int (nI dp), .int (nI nx), .int (nI ou), .ref oA, .int (nI os), .int (nI fi), .int (nI me), .int pu, .int (nI de), .int (nI u.1), .int u.2, .int na, .long num])), (wA, .inl (cI, 2600, .inl rw))]) C Z (c_Model_fail l D cI cZ mA ha tA bA eA zA wA pA oA n us en lf dp nx ou os fi me pu de fa pl na num 2 (nI nx) (by first | assumption | omega)) k_Model_63 rfl ⟨by rw [hR]; decide, by rw [hR]; decide⟩ ⟨rfl, rfl⟩ [0] [1] [1, 0] (by decide) rfl rfl (by decide) (by decide) (by decide) (fun _ => rfl) 0 rfl rfl hl.1 rfl (Nat.le_of_ble_eq_true rfl) d_Model_broken_30 ⟨Nat.zero_le _, Nat.zero_le _⟩ (fun r u H locs hp Z => ?_)
    obtain ⟨hp1, hp2⟩ := hp; have hp1 := hp1.symm; have hp2 := hp2.symm; subst hp1; subst hp2
    have Z : Wd D A s.heap [(mA, .inr (3, [.ref ha, .int (nI n), .ref tA, .int (nI us), .ref bA, .ref eA, .ref zA, .int en, .ref wA, .int (nI lf), .ref pA, .int (nI dp), .int (nI nx), .int (nI ou), .ref oA, .int (nI os), .int (nI fi), .int (nI me), .int pu, .int (nI de), .int (nI 2), .int (plP dp ou (nI nx)), .int na, .long num])), (wA, .inl (cI, 2600, .inl rw))] H locs := Z
    exact r_iret C Z (2, plP dp ou (nI nx)) (by refine ⟨rfl, ?_⟩; first | rfl | (rw [if_pos (by omega)]; unfold plP; rw [if_pos (by omega)]; rfl) | (rw [if_pos (by omega)]; unfold plP; rw [if_pos (by omega), if_pos (by omega)]) | (rw [if_neg (by omega)])) rfl hQ d_Model_broken_33
  · skip
    refine lv_aload_n C.1 C.2.1 d_Model_broken_7 rfl (lv_at hl 0 rfl) ?_
    refine r_callVi (rest := []) (wr := []) (wn := fun u => [(mA, .inr (3, [.ref ha, .int (nI n), .ref tA, .int (nI us), .ref bA, .ref eA, .ref zA, .int en, .ref wA, .int (nI lf), .ref pA, .int (nI dp), .int (nI nx), .int (nI ou), .ref oA, .int (nI os), .int (nI fi), .int (nI me), .int pu, .int (nI de), .int (nI fa), .int pl, .int na, .long num])), (wA, .inl (cI, 2600, .inl rw))]) C Z (c_Model_peek l D cI cZ mA ha tA bA eA zA wA pA oA n us en lf dp nx ou os fi me pu de fa pl na num rw stk c (by first | assumption | omega) (by first | assumption | omega) (by first | assumption | omega) (by first | assumption | omega)) k_Model_59 rfl ⟨by rw [hR]; decide, by rw [hR]; decide⟩ ⟨rfl, rfl⟩ [0, 1] [] [0, 1] (by decide) rfl rfl (by decide) (by decide) (by decide) (fun _ => rfl) 0 rfl rfl hl.1 rfl (Nat.le_of_ble_eq_true rfl) d_Model_broken_8 ⟨Nat.zero_le _, Nat.zero_le _⟩ (fun r u H locs hp Z => ?_)
    obtain ⟨hp1, hp2⟩ := hp; have hp1 := hp1.symm; have hp2 := hp2.symm; subst hp1; subst hp2
    have Z : Wd D A s.heap [(mA, .inr (3, [.ref ha, .int (nI n), .ref tA, .int (nI us), .ref bA, .ref eA, .ref zA, .int en, .ref wA, .int (nI lf), .ref pA, .int (nI dp), .int (nI nx), .int (nI ou), .ref oA, .int (nI os), .int (nI fi), .int (nI me), .int pu, .int (nI de), .int (nI fa), .int pl, .int na, .long num])), (wA, .inl (cI, 2600, .inl rw))] H locs := Z
    refine r_zge (tgt := 24) C d_Model_broken_11 (by decide) (by omega) ?_
    refine lv_aload_n C.1 C.2.1 d_Model_broken_24 rfl (lv_at hl 0 rfl) ?_
    refine lv_iconst (v := nI 2) C.1 C.2.1 d_Model_broken_25 (by decide) ?_
    refine lv_aload_n C.1 C.2.1 d_Model_broken_26 rfl (lv_at hl 0 rfl) ?_
    refine r_get C Z 0 f_Model_56 rfl rfl d_Model_broken_27 ?_
    refine r_callVi (rest := []) (wr := [(wA, .inl (cI, 2600, .inl rw))]) (wn := fun u => [(mA, .inr (3, [.ref ha, .int (nI n), .ref tA, .int (nI us), .ref bA, .ref eA, .ref zA, .int en, .ref wA, .int (nI lf), .ref pA, .int (nI dp), .int (nI nx), .int (nI ou), .ref oA, .int (nI os), .int (nI fi), .int (nI me), .int pu, .int (nI de), .int (nI u.1), .int u.2, .int na, .long num])), (wA, .inl (cI, 2600, .inl rw))]) C Z (c_Model_fail l D cI cZ mA ha tA bA eA zA wA pA oA n us en lf dp nx ou os fi me pu de fa pl na num 2 (nI nx) (by first | assumption | omega)) k_Model_63 rfl ⟨by rw [hR]; decide, by rw [hR]; decide⟩ ⟨rfl, rfl⟩ [0] [1] [1, 0] (by decide) rfl rfl (by decide) (by decide) (by decide) (fun _ => rfl) 0 rfl rfl hl.1 rfl (Nat.le_of_ble_eq_true rfl) d_Model_broken_30 ⟨Nat.zero_le _, Nat.zero_le _⟩ (fun r u H locs hp Z => ?_)
    obtain ⟨hp1, hp2⟩ := hp; have hp1 := hp1.symm; have hp2 := hp2.symm; subst hp1; subst hp2
    have Z : Wd D A s.heap [(mA, .inr (3, [.ref ha, .int (nI n), .ref tA, .int (nI us), .ref bA, .ref eA, .ref zA, .int en, .ref wA, .int (nI lf), .ref pA, .int (nI dp), .int (nI nx), .int (nI ou), .ref oA, .int (nI os), .int (nI fi), .int (nI me), .int pu, .int (nI de), .int (nI 2), .int (plP dp ou (nI nx)), .int na, .long num])), (wA, .inl (cI, 2600, .inl rw))] H locs := Z
    exact r_iret C Z (2, plP dp ou (nI nx)) (by refine ⟨rfl, ?_⟩; first | rfl | (rw [if_pos (by omega)]; unfold plP; rw [if_pos (by omega)]; rfl) | (rw [if_pos (by omega)]; unfold plP; rw [if_pos (by omega), if_pos (by omega)]) | (rw [if_neg (by omega)])) rfl hQ d_Model_broken_33

set_option maxHeartbeats 4000000 in
set_option maxRecDepth 100000 in
theorem c_Model_give (l : Launch) (D : va_G) (cI cZ : ClassId) (mA ha tA bA eA zA wA pA oA : Nat) (n : Nat) (us : Nat) (en : Int32) (lf : Nat) (dp : Nat) (nx : Nat) (ou : Nat) (os : Nat) (fi : Nat) (me : Nat) (pu : Int32) (de : Nat) (fa : Nat) (pl : Int32) (na : Int32) (num : Int64) (out : Nat → Nat) (c : Nat) (x : Int32) (hos : os ≤ 3000) (hdp : dp ≤ 12) : Mi l y_Model_give b_Model_give 3 (some .int) ({ frames := 1, cells := 0, slots := 0, locals := 22 } : Room) D cI cZ [.ref mA, .int (nI c), .int x] [(mA, .inr (3, [.ref ha, .int (nI n), .ref tA, .int (nI us), .ref bA, .ref eA, .ref zA, .int en, .ref wA, .int (nI lf), .ref pA, .int (nI dp), .int (nI nx), .int (nI ou), .ref oA, .int (nI os), .int (nI fi), .int (nI me), .int pu, .int (nI de), .int (nI fa), .int pl, .int na, .long num])), (oA, .inl (cI, 3000, .inl (aN out)))] (fun (r : Int32) (u : Nat × Int32 × Nat × (Nat → Nat)) => r = (if 3000 ≤ os then (-1) else nI 0) ∧ u = (gvK os fa, if 3000 ≤ os then plP dp ou x else pl, gvN os, gvO os c out)) (fun u : Nat × Int32 × Nat × (Nat → Nat) => [(mA, .inr (3, [.ref ha, .int (nI n), .ref tA, .int (nI us), .ref bA, .ref eA, .ref zA, .int en, .ref wA, .int (nI lf), .ref pA, .int (nI dp), .int (nI nx), .int (nI ou), .ref oA, .int (nI u.2.2.1), .int (nI fi), .int (nI me), .int pu, .int (nI de), .int (nI u.1), .int u.2.1, .int na, .long num])), (oA, .inl (cI, 3000, .inl (aN u.2.2.2)))]) := by
  refine Mi.intro (by decide) (Nat.le_of_ble_eq_true rfl) ?_
  intro p e s m args below meth cd A ls R Q hR hQ C Z hl
  have hl : lv_has ls 3 [(0, .ref mA), (1, .int (nI c)), (2, .int x)] := hl
  refine lv_aload_n C.1 C.2.1 d_Model_give_0 rfl (lv_at hl 0 rfl) ?_
  refine r_get C Z 0 f_Model_117 rfl rfl d_Model_give_1 ?_
  refine lv_sipush (v := nI 3000) C.1 C.2.1 d_Model_give_4 (by decide) ?_
  refine r_ne (tgt := 18) C d_Model_give_7 (by decide) (by omega) (by omega) (fun h7 => ?_) (fun h7 => ?_)
  · skip
    refine lv_aload_n C.1 C.2.1 d_Model_give_18 rfl (lv_at hl 0 rfl) ?_
    refine r_get C Z 0 f_Model_32 rfl rfl d_Model_give_19 ?_
    refine lv_aload_n C.1 C.2.1 d_Model_give_22 rfl (lv_at hl 0 rfl) ?_
    refine r_get C Z 0 f_Model_117 rfl rfl d_Model_give_23 ?_
    refine lv_iload_n C.1 C.2.1 d_Model_give_26 rfl (lv_at hl 1 rfl) ?_
    refine r_istN (ws' := [(mA, .inr (3, [.ref ha, .int (nI n), .ref tA, .int (nI us), .ref bA, .ref eA, .ref zA, .int en, .ref wA, .int (nI lf), .ref pA, .int (nI dp), .int (nI nx), .int (nI ou), .ref oA, .int (nI os), .int (nI fi), .int (nI me), .int pu, .int (nI de), .int (nI fa), .int pl, .int na, .long num])), (oA, .inl (cI, 3000, .inl (aN (updN out os c))))]) C Z 1 rfl (by omega) (by decide) rfl d_Model_give_27 (fun H locs Z => ?_)
    refine lv_aload_n C.1 C.2.1 d_Model_give_28 rfl (lv_at hl 0 rfl) ?_
    refine lv_aload_n C.1 C.2.1 d_Model_give_29 rfl (lv_at hl 0 rfl) ?_
    refine r_get C Z 0 f_Model_117 rfl rfl d_Model_give_30 ?_
    refine lv_iconst (v := nI 1) C.1 C.2.1 d_Model_give_33 (by decide) ?_
    refine r_add C d_Model_give_34 ?_
    refine r_put (ws' := [(mA, .inr (3, [.ref ha, .int (nI n), .ref tA, .int (nI us), .ref bA, .ref eA, .ref zA, .int en, .ref wA, .int (nI lf), .ref pA, .int (nI dp), .int (nI nx), .int (nI ou), .ref oA, .int (nI (os + 1)), .int (nI fi), .int (nI me), .int pu, .int (nI de), .int (nI fa), .int pl, .int na, .long num])), (oA, .inl (cI, 3000, .inl (aN (updN out os c))))]) C Z 0 f_Model_117 rfl rfl rfl (Nat.le_of_ble_eq_true rfl) rfl d_Model_give_35 (fun H locs Z => ?_)
    refine lv_iconst (v := nI 0) C.1 C.2.1 d_Model_give_38 (by decide) ?_
    exact r_iret C Z (fa, pl, os + 1, updN out os c) (by unfold gvK gvN gvO; first | (rw [if_pos (by omega), if_pos (by omega), if_pos (by omega), if_pos (by omega), if_pos (by omega)]; exact ⟨rfl, rfl⟩) | (rw [if_neg (by omega), if_neg (by omega), if_neg (by omega), if_neg (by omega), if_neg (by omega)]; exact ⟨rfl, rfl⟩)) rfl hQ d_Model_give_39
  · skip
    refine lv_aload_n C.1 C.2.1 d_Model_give_10 rfl (lv_at hl 0 rfl) ?_
    refine lv_bipush (v := nI 15) C.1 C.2.1 d_Model_give_11 (by decide) ?_
    refine lv_iload_n C.1 C.2.1 d_Model_give_13 rfl (lv_at hl 2 rfl) ?_
    refine r_callVi (rest := []) (wr := [(oA, .inl (cI, 3000, .inl (aN out)))]) (wn := fun u => [(mA, .inr (3, [.ref ha, .int (nI n), .ref tA, .int (nI us), .ref bA, .ref eA, .ref zA, .int en, .ref wA, .int (nI lf), .ref pA, .int (nI dp), .int (nI nx), .int (nI ou), .ref oA, .int (nI os), .int (nI fi), .int (nI me), .int pu, .int (nI de), .int (nI u.1), .int u.2, .int na, .long num])), (oA, .inl (cI, 3000, .inl (aN out)))]) C Z (c_Model_fail l D cI cZ mA ha tA bA eA zA wA pA oA n us en lf dp nx ou os fi me pu de fa pl na num 15 x (by first | assumption | omega)) k_Model_63 rfl ⟨by rw [hR]; decide, by rw [hR]; decide⟩ ⟨rfl, rfl⟩ [0] [1] [1, 0] (by decide) rfl rfl (by decide) (by decide) (by decide) (fun _ => rfl) 0 rfl rfl hl.1 rfl (Nat.le_of_ble_eq_true rfl) d_Model_give_14 ⟨Nat.zero_le _, Nat.zero_le _⟩ (fun r u H locs hp Z => ?_)
    obtain ⟨hp1, hp2⟩ := hp; have hp1 := hp1.symm; have hp2 := hp2.symm; subst hp1; subst hp2
    have Z : Wd D A s.heap [(mA, .inr (3, [.ref ha, .int (nI n), .ref tA, .int (nI us), .ref bA, .ref eA, .ref zA, .int en, .ref wA, .int (nI lf), .ref pA, .int (nI dp), .int (nI nx), .int (nI ou), .ref oA, .int (nI os), .int (nI fi), .int (nI me), .int pu, .int (nI de), .int (nI 15), .int (plP dp ou x), .int na, .long num])), (oA, .inl (cI, 3000, .inl (aN out)))] H locs := Z
    exact r_iret C Z (15, plP dp ou x, os, out) (by unfold gvK gvN gvO; first | (rw [if_pos (by omega), if_pos (by omega), if_pos (by omega), if_pos (by omega), if_pos (by omega)]; exact ⟨rfl, rfl⟩) | (rw [if_neg (by omega), if_neg (by omega), if_neg (by omega), if_neg (by omega), if_neg (by omega)]; exact ⟨rfl, rfl⟩)) rfl hQ d_Model_give_17
