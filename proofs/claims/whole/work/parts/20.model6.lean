set_option maxHeartbeats 4000000 in
set_option maxRecDepth 100000 in
theorem c_Model_place (l : Launch) (D : va_G) (cI cZ : ClassId) (mA ha tA bA eA zA wA pA oA : Nat) (n : Nat) (us : Nat) (en : Int32) (lf : Nat) (dp : Nat) (nx : Nat) (ou : Nat) (os : Nat) (fi : Nat) (me : Nat) (pu : Int32) (de : Nat) (fa : Nat) (pl : Int32) (na : Int32) (num : Int64) : Mi l y_Model_place b_Model_place 1 (some .int) ({ frames := 0, cells := 0, slots := 0, locals := 0 } : Room) D cI cZ [.ref mA] [(mA, .inr (3, [.ref ha, .int (nI n), .ref tA, .int (nI us), .ref bA, .ref eA, .ref zA, .int en, .ref wA, .int (nI lf), .ref pA, .int (nI dp), .int (nI nx), .int (nI ou), .ref oA, .int (nI os), .int (nI fi), .int (nI me), .int pu, .int (nI de), .int (nI fa), .int pl, .int na, .long num]))] (fun (r : Int32) (u : Unit) => r = pl ∧ u = ()) (fun u : Unit => [(mA, .inr (3, [.ref ha, .int (nI n), .ref tA, .int (nI us), .ref bA, .ref eA, .ref zA, .int en, .ref wA, .int (nI lf), .ref pA, .int (nI dp), .int (nI nx), .int (nI ou), .ref oA, .int (nI os), .int (nI fi), .int (nI me), .int pu, .int (nI de), .int (nI fa), .int pl, .int na, .long num]))]) := by
  refine Mi.intro (by decide) (Nat.le_of_ble_eq_true rfl) ?_
  intro p e s m args below meth cd A ls R Q hR hQ C Z hl
  have hl : lv_has ls 1 [(0, .ref mA)] := hl
  refine lv_aload_n C.1 C.2.1 d_Model_place_0 rfl (lv_at hl 0 rfl) ?_
  refine r_get C Z 0 f_Model_35 rfl rfl d_Model_place_1 ?_
  exact r_iret C Z () (by first | exact ⟨rfl, rfl⟩ | (clear C Z hl; grind)) rfl hQ d_Model_place_4

set_option maxHeartbeats 4000000 in
set_option maxRecDepth 100000 in
theorem c_Model_given (l : Launch) (D : va_G) (cI cZ : ClassId) (mA ha tA bA eA zA wA pA oA : Nat) (n : Nat) (us : Nat) (en : Int32) (lf : Nat) (dp : Nat) (nx : Nat) (ou : Nat) (os : Nat) (fi : Nat) (me : Nat) (pu : Int32) (de : Nat) (fa : Nat) (pl : Int32) (na : Int32) (num : Int64) (out : Nat → Nat) (i : Nat) (hfi : fi = 1) (hi : i < os) (hos : os ≤ 3000) : Mi l y_Model_given b_Model_given 2 (some .int) ({ frames := 0, cells := 0, slots := 0, locals := 0 } : Room) D cI cZ [.ref mA, .int (nI i)] [(mA, .inr (3, [.ref ha, .int (nI n), .ref tA, .int (nI us), .ref bA, .ref eA, .ref zA, .int en, .ref wA, .int (nI lf), .ref pA, .int (nI dp), .int (nI nx), .int (nI ou), .ref oA, .int (nI os), .int (nI fi), .int (nI me), .int pu, .int (nI de), .int (nI fa), .int pl, .int na, .long num])), (oA, .inl (cI, 3000, .inl (aN out)))] (fun (r : Int32) (u : Unit) => r = nI (out i) ∧ u = ()) (fun u : Unit => [(mA, .inr (3, [.ref ha, .int (nI n), .ref tA, .int (nI us), .ref bA, .ref eA, .ref zA, .int en, .ref wA, .int (nI lf), .ref pA, .int (nI dp), .int (nI nx), .int (nI ou), .ref oA, .int (nI os), .int (nI fi), .int (nI me), .int pu, .int (nI de), .int (nI fa), .int pl, .int na, .long num])), (oA, .inl (cI, 3000, .inl (aN out)))]) := by
  refine Mi.intro (by decide) (Nat.le_of_ble_eq_true rfl) ?_
  intro p e s m args below meth cd A ls R Q hR hQ C Z hl
  have hl : lv_has ls 2 [(0, .ref mA), (1, .int (nI i))] := hl
  refine lv_aload_n C.1 C.2.1 d_Model_given_0 rfl (lv_at hl 0 rfl) ?_
  refine r_get C Z 0 f_Model_130 rfl rfl d_Model_given_1 ?_
  refine r_zeq (tgt := 28) C d_Model_given_4 (by decide) (by omega) (fun h4 => (by omega : False).elim) (fun h4 => ?_)
  refine lv_iload_n C.1 C.2.1 d_Model_given_7 rfl (lv_at hl 1 rfl) ?_
  refine r_zlt (tgt := 28) C d_Model_given_8 (by decide) (by omega) ?_
  refine lv_iload_n C.1 C.2.1 d_Model_given_11 rfl (lv_at hl 1 rfl) ?_
  refine lv_aload_n C.1 C.2.1 d_Model_given_12 rfl (lv_at hl 0 rfl) ?_
  refine r_get C Z 0 f_Model_117 rfl rfl d_Model_given_13 ?_
  refine r_ge (tgt := 28) C d_Model_given_16 (by decide) (by omega) (by omega) (fun h16 => (by omega : False).elim) (fun h16 => ?_)
  refine lv_aload_n C.1 C.2.1 d_Model_given_19 rfl (lv_at hl 0 rfl) ?_
  refine r_get C Z 0 f_Model_32 rfl rfl d_Model_given_20 ?_
  refine lv_iload_n C.1 C.2.1 d_Model_given_23 rfl (lv_at hl 1 rfl) ?_
  refine r_ildN C Z 1 rfl (by omega) (by decide) d_Model_given_24 ?_
  refine lv_goto (tgt := 29) C.1 C.2.1 d_Model_given_25 (by decide) ?_
  exact r_iret C Z () (by first | exact ⟨rfl, rfl⟩ | (clear C Z hl; simp [h4, h16]; done) | (clear C Z hl; grind)) rfl hQ d_Model_given_29

set_option maxHeartbeats 4000000 in
set_option maxRecDepth 100000 in
theorem c_Model_given0 (l : Launch) (D : va_G) (cI cZ : ClassId) (mA ha tA bA eA zA wA pA oA : Nat) (n : Nat) (us : Nat) (en : Int32) (lf : Nat) (dp : Nat) (nx : Nat) (ou : Nat) (os : Nat) (fi : Nat) (me : Nat) (pu : Int32) (de : Nat) (fa : Nat) (pl : Int32) (na : Int32) (num : Int64) (x : Int32) (hfi : fi = 0) : Mi l y_Model_given b_Model_given 2 (some .int) ({ frames := 0, cells := 0, slots := 0, locals := 0 } : Room) D cI cZ [.ref mA, .int x] [(mA, .inr (3, [.ref ha, .int (nI n), .ref tA, .int (nI us), .ref bA, .ref eA, .ref zA, .int en, .ref wA, .int (nI lf), .ref pA, .int (nI dp), .int (nI nx), .int (nI ou), .ref oA, .int (nI os), .int (nI fi), .int (nI me), .int pu, .int (nI de), .int (nI fa), .int pl, .int na, .long num]))] (fun (r : Int32) (u : Unit) => r = (-1) ∧ u = ()) (fun u : Unit => [(mA, .inr (3, [.ref ha, .int (nI n), .ref tA, .int (nI us), .ref bA, .ref eA, .ref zA, .int en, .ref wA, .int (nI lf), .ref pA, .int (nI dp), .int (nI nx), .int (nI ou), .ref oA, .int (nI os), .int (nI fi), .int (nI me), .int pu, .int (nI de), .int (nI fa), .int pl, .int na, .long num]))]) := by
  refine Mi.intro (by decide) (Nat.le_of_ble_eq_true rfl) ?_
  intro p e s m args below meth cd A ls R Q hR hQ C Z hl
  have hl : lv_has ls 2 [(0, .ref mA), (1, .int x)] := hl
  refine lv_aload_n C.1 C.2.1 d_Model_given_0 rfl (lv_at hl 0 rfl) ?_
  refine r_get C Z 0 f_Model_130 rfl rfl d_Model_given_1 ?_
  refine r_zeq (tgt := 28) C d_Model_given_4 (by decide) (by omega) (fun h4 => ?_) (fun h4 => (by omega : False).elim)
  refine lv_iconst (v := (-1)) C.1 C.2.1 d_Model_given_28 (by decide) ?_
  exact r_iret C Z () (by first | exact ⟨rfl, rfl⟩ | (clear C Z hl; simp [h4]; done) | (clear C Z hl; grind)) rfl hQ d_Model_given_29

set_option maxHeartbeats 4000000 in
set_option maxRecDepth 100000 in
theorem c_Model_givenBad (l : Launch) (D : va_G) (cI cZ : ClassId) (mA ha tA bA eA zA wA pA oA : Nat) (n : Nat) (us : Nat) (en : Int32) (lf : Nat) (dp : Nat) (nx : Nat) (ou : Nat) (os : Nat) (fi : Nat) (me : Nat) (pu : Int32) (de : Nat) (fa : Nat) (pl : Int32) (na : Int32) (num : Int64) (x : Int32) (hfi : fi = 1) (hx : x < 0 ∨ nI os ≤ x) : Mi l y_Model_given b_Model_given 2 (some .int) ({ frames := 0, cells := 0, slots := 0, locals := 0 } : Room) D cI cZ [.ref mA, .int x] [(mA, .inr (3, [.ref ha, .int (nI n), .ref tA, .int (nI us), .ref bA, .ref eA, .ref zA, .int en, .ref wA, .int (nI lf), .ref pA, .int (nI dp), .int (nI nx), .int (nI ou), .ref oA, .int (nI os), .int (nI fi), .int (nI me), .int pu, .int (nI de), .int (nI fa), .int pl, .int na, .long num]))] (fun (r : Int32) (u : Unit) => r = (-1) ∧ u = ()) (fun u : Unit => [(mA, .inr (3, [.ref ha, .int (nI n), .ref tA, .int (nI us), .ref bA, .ref eA, .ref zA, .int en, .ref wA, .int (nI lf), .ref pA, .int (nI dp), .int (nI nx), .int (nI ou), .ref oA, .int (nI os), .int (nI fi), .int (nI me), .int pu, .int (nI de), .int (nI fa), .int pl, .int na, .long num]))]) := by
  refine Mi.intro (by decide) (Nat.le_of_ble_eq_true rfl) ?_
  intro p e s m args below meth cd A ls R Q hR hQ C Z hl
  have hl : lv_has ls 2 [(0, .ref mA), (1, .int x)] := hl
  refine lv_aload_n C.1 C.2.1 d_Model_given_0 rfl (lv_at hl 0 rfl) ?_
  refine r_get C Z 0 f_Model_130 rfl rfl d_Model_given_1 ?_
  refine r_zeq (tgt := 28) C d_Model_given_4 (by decide) (by omega) (fun h4 => (by omega : False).elim) (fun h4 => ?_)
  refine lv_iload_n C.1 C.2.1 d_Model_given_7 rfl (lv_at hl 1 rfl) ?_
  refine lv_if_lt (tgt := 28) C.1 C.2.1 d_Model_given_8 (by decide) (fun h8 => ?_) (fun h8 => ?_)
  · skip
    refine lv_iconst (v := (-1)) C.1 C.2.1 d_Model_given_28 (by decide) ?_
    exact r_iret C Z () (by first | exact ⟨rfl, rfl⟩ | (clear C Z hl; simp [h4, h8]; done) | (clear C Z hl; grind)) rfl hQ d_Model_given_29
  · skip
    refine lv_iload_n C.1 C.2.1 d_Model_given_11 rfl (lv_at hl 1 rfl) ?_
    refine lv_aload_n C.1 C.2.1 d_Model_given_12 rfl (lv_at hl 0 rfl) ?_
    refine r_get C Z 0 f_Model_117 rfl rfl d_Model_given_13 ?_
    refine lv_icmp_ge (tgt := 28) C.1 C.2.1 d_Model_given_16 (by decide) (fun h16 => ?_) (fun h16 => ?_)
    · skip
      refine lv_iconst (v := (-1)) C.1 C.2.1 d_Model_given_28 (by decide) ?_
      exact r_iret C Z () (by first | exact ⟨rfl, rfl⟩ | (clear C Z hl; simp [h4, h8, h16]; done) | (clear C Z hl; grind)) rfl hQ d_Model_given_29
    · skip
      exact (hx.elim (fun q => h8 q) (fun q => h16 q)).elim

set_option maxHeartbeats 4000000 in
set_option maxRecDepth 100000 in
theorem c_Model_textBad (l : Launch) (D : va_G) (cI cZ : ClassId) (mA ha tA bA eA zA wA pA oA : Nat) (n : Nat) (us : Nat) (en : Int32) (lf : Nat) (dp : Nat) (nx : Nat) (ou : Nat) (os : Nat) (fi : Nat) (me : Nat) (pu : Int32) (de : Nat) (fa : Nat) (pl : Int32) (na : Int32) (num : Int64) (x : Int32) (y : Int32) (hx : x < 0 ∨ nI 26 ≤ x) : Mi l y_Model_text b_Model_text 3 (some .int) ({ frames := 0, cells := 0, slots := 0, locals := 0 } : Room) D cI cZ [.ref mA, .int x, .int y] [(mA, .inr (3, [.ref ha, .int (nI n), .ref tA, .int (nI us), .ref bA, .ref eA, .ref zA, .int en, .ref wA, .int (nI lf), .ref pA, .int (nI dp), .int (nI nx), .int (nI ou), .ref oA, .int (nI os), .int (nI fi), .int (nI me), .int pu, .int (nI de), .int (nI fa), .int pl, .int na, .long num]))] (fun (r : Int32) (u : Unit) => r = (-1) ∧ u = ()) (fun u : Unit => [(mA, .inr (3, [.ref ha, .int (nI n), .ref tA, .int (nI us), .ref bA, .ref eA, .ref zA, .int en, .ref wA, .int (nI lf), .ref pA, .int (nI dp), .int (nI nx), .int (nI ou), .ref oA, .int (nI os), .int (nI fi), .int (nI me), .int pu, .int (nI de), .int (nI fa), .int pl, .int na, .long num]))]) := by
  refine Mi.intro (by decide) (Nat.le_of_ble_eq_true rfl) ?_
  intro p e s m args below meth cd A ls R Q hR hQ C Z hl
  have hl : lv_has ls 3 [(0, .ref mA), (1, .int x), (2, .int y)] := hl
  refine lv_iload_n C.1 C.2.1 d_Model_text_0 rfl (lv_at hl 1 rfl) ?_
  refine lv_if_lt (tgt := 56) C.1 C.2.1 d_Model_text_1 (by decide) (fun h1 => ?_) (fun h1 => ?_)
  · skip
    refine lv_iconst (v := (-1)) C.1 C.2.1 d_Model_text_56 (by decide) ?_
    exact r_iret C Z () (by first | exact ⟨rfl, rfl⟩ | (clear C Z hl; simp [h1]; done) | (clear C Z hl; grind)) rfl hQ d_Model_text_57
  · skip
    refine lv_iload_n C.1 C.2.1 d_Model_text_4 rfl (lv_at hl 1 rfl) ?_
    refine lv_bipush (v := nI 26) C.1 C.2.1 d_Model_text_5 (by decide) ?_
    refine lv_icmp_ge (tgt := 56) C.1 C.2.1 d_Model_text_7 (by decide) (fun h7 => ?_) (fun h7 => ?_)
    · skip
      refine lv_iconst (v := (-1)) C.1 C.2.1 d_Model_text_56 (by decide) ?_
      exact r_iret C Z () (by first | exact ⟨rfl, rfl⟩ | (clear C Z hl; simp [h1, h7]; done) | (clear C Z hl; grind)) rfl hQ d_Model_text_57
    · skip
      exact (hx.elim (fun q => h1 q) (fun q => h7 q)).elim

set_option maxHeartbeats 4000000 in
set_option maxRecDepth 100000 in
theorem c_Model_textNone (l : Launch) (D : va_G) (cI cZ : ClassId) (mA ha tA bA eA zA wA pA oA : Nat) (n : Nat) (us : Nat) (en : Int32) (lf : Nat) (dp : Nat) (nx : Nat) (ou : Nat) (os : Nat) (fi : Nat) (me : Nat) (pu : Int32) (de : Nat) (fa : Nat) (pl : Int32) (na : Int32) (num : Int64) (hs : Nat → Nat) (k : Nat) (y : Int32) (hk : k < 26) (hhs : hs k = 0) : Mi l y_Model_text b_Model_text 3 (some .int) ({ frames := 0, cells := 0, slots := 0, locals := 0 } : Room) D cI cZ [.ref mA, .int (nI k), .int y] [(mA, .inr (3, [.ref ha, .int (nI n), .ref tA, .int (nI us), .ref bA, .ref eA, .ref zA, .int en, .ref wA, .int (nI lf), .ref pA, .int (nI dp), .int (nI nx), .int (nI ou), .ref oA, .int (nI os), .int (nI fi), .int (nI me), .int pu, .int (nI de), .int (nI fa), .int pl, .int na, .long num])), (zA, .inl (cZ, 26, .inl (aN hs)))] (fun (r : Int32) (u : Unit) => r = (-1) ∧ u = ()) (fun u : Unit => [(mA, .inr (3, [.ref ha, .int (nI n), .ref tA, .int (nI us), .ref bA, .ref eA, .ref zA, .int en, .ref wA, .int (nI lf), .ref pA, .int (nI dp), .int (nI nx), .int (nI ou), .ref oA, .int (nI os), .int (nI fi), .int (nI me), .int pu, .int (nI de), .int (nI fa), .int pl, .int na, .long num])), (zA, .inl (cZ, 26, .inl (aN hs)))]) := by
  refine Mi.intro (by decide) (Nat.le_of_ble_eq_true rfl) ?_
  intro p e s m args below meth cd A ls R Q hR hQ C Z hl
  have hl : lv_has ls 3 [(0, .ref mA), (1, .int (nI k)), (2, .int y)] := hl
  refine lv_iload_n C.1 C.2.1 d_Model_text_0 rfl (lv_at hl 1 rfl) ?_
  refine r_zlt (tgt := 56) C d_Model_text_1 (by decide) (by omega) ?_
  refine lv_iload_n C.1 C.2.1 d_Model_text_4 rfl (lv_at hl 1 rfl) ?_
  refine lv_bipush (v := nI 26) C.1 C.2.1 d_Model_text_5 (by decide) ?_
  refine r_ge (tgt := 56) C d_Model_text_7 (by decide) (by omega) (by omega) (fun h7 => (by omega : False).elim) (fun h7 => ?_)
  refine lv_aload_n C.1 C.2.1 d_Model_text_10 rfl (lv_at hl 0 rfl) ?_
  refine r_get C Z 0 f_Model_22 rfl rfl d_Model_text_11 ?_
  refine lv_iload_n C.1 C.2.1 d_Model_text_14 rfl (lv_at hl 1 rfl) ?_
  refine r_zldN C Z 1 rfl (by omega) (by decide) d_Model_text_15 ?_
  refine r_zeq (tgt := 56) C d_Model_text_16 (by decide) (by omega) (fun h16 => ?_) (fun h16 => (by omega : False).elim)
  refine lv_iconst (v := (-1)) C.1 C.2.1 d_Model_text_56 (by decide) ?_
  exact r_iret C Z () (by first | exact ⟨rfl, rfl⟩ | (clear C Z hl; simp [h7, h16]; done) | (clear C Z hl; grind)) rfl hQ d_Model_text_57

set_option maxHeartbeats 4000000 in
set_option maxRecDepth 100000 in
theorem c_Model_textOut (l : Launch) (D : va_G) (cI cZ : ClassId) (mA ha tA bA eA zA wA pA oA : Nat) (n : Nat) (us : Nat) (en : Int32) (lf : Nat) (dp : Nat) (nx : Nat) (ou : Nat) (os : Nat) (fi : Nat) (me : Nat) (pu : Int32) (de : Nat) (fa : Nat) (pl : Int32) (na : Int32) (num : Int64) (bg : Nat → Nat) (ed : Nat → Nat) (hs : Nat → Nat) (k : Nat) (y : Int32) (hk : k < 26) (hhs : hs k = 1) (hbe : bg k ≤ ed k) (hy : y < 0 ∨ nI (ed k - bg k) ≤ y) : Mi l y_Model_text b_Model_text 3 (some .int) ({ frames := 0, cells := 0, slots := 0, locals := 0 } : Room) D cI cZ [.ref mA, .int (nI k), .int y] [(mA, .inr (3, [.ref ha, .int (nI n), .ref tA, .int (nI us), .ref bA, .ref eA, .ref zA, .int en, .ref wA, .int (nI lf), .ref pA, .int (nI dp), .int (nI nx), .int (nI ou), .ref oA, .int (nI os), .int (nI fi), .int (nI me), .int pu, .int (nI de), .int (nI fa), .int pl, .int na, .long num])), (bA, .inl (cI, 26, .inl (aN bg))), (eA, .inl (cI, 26, .inl (aN ed))), (zA, .inl (cZ, 26, .inl (aN hs)))] (fun (r : Int32) (u : Unit) => r = (-1) ∧ u = ()) (fun u : Unit => [(mA, .inr (3, [.ref ha, .int (nI n), .ref tA, .int (nI us), .ref bA, .ref eA, .ref zA, .int en, .ref wA, .int (nI lf), .ref pA, .int (nI dp), .int (nI nx), .int (nI ou), .ref oA, .int (nI os), .int (nI fi), .int (nI me), .int pu, .int (nI de), .int (nI fa), .int pl, .int na, .long num])), (bA, .inl (cI, 26, .inl (aN bg))), (eA, .inl (cI, 26, .inl (aN ed))), (zA, .inl (cZ, 26, .inl (aN hs)))]) := by
  refine Mi.intro (by decide) (Nat.le_of_ble_eq_true rfl) ?_
  intro p e s m args below meth cd A ls R Q hR hQ C Z hl
  have hl : lv_has ls 3 [(0, .ref mA), (1, .int (nI k)), (2, .int y)] := hl
  refine lv_iload_n C.1 C.2.1 d_Model_text_0 rfl (lv_at hl 1 rfl) ?_
  refine r_zlt (tgt := 56) C d_Model_text_1 (by decide) (by omega) ?_
  refine lv_iload_n C.1 C.2.1 d_Model_text_4 rfl (lv_at hl 1 rfl) ?_
  refine lv_bipush (v := nI 26) C.1 C.2.1 d_Model_text_5 (by decide) ?_
  refine r_ge (tgt := 56) C d_Model_text_7 (by decide) (by omega) (by omega) (fun h7 => (by omega : False).elim) (fun h7 => ?_)
  refine lv_aload_n C.1 C.2.1 d_Model_text_10 rfl (lv_at hl 0 rfl) ?_
  refine r_get C Z 0 f_Model_22 rfl rfl d_Model_text_11 ?_
  refine lv_iload_n C.1 C.2.1 d_Model_text_14 rfl (lv_at hl 1 rfl) ?_
  refine r_zldN C Z 3 rfl (by omega) (by decide) d_Model_text_15 ?_
  refine r_zeq (tgt := 56) C d_Model_text_16 (by decide) (by omega) (fun h16 => (by omega : False).elim) (fun h16 => ?_)
  refine lv_iload_n C.1 C.2.1 d_Model_text_19 rfl (lv_at hl 2 rfl) ?_
  refine lv_if_lt (tgt := 56) C.1 C.2.1 d_Model_text_20 (by decide) (fun h20 => ?_) (fun h20 => ?_)
  · skip
    refine lv_iconst (v := (-1)) C.1 C.2.1 d_Model_text_56 (by decide) ?_
    exact r_iret C Z () (by first | exact ⟨rfl, rfl⟩ | (clear C Z hl; simp [h7, h16, h20]; done) | (clear C Z hl; grind)) rfl hQ d_Model_text_57
  · skip
    refine lv_iload_n C.1 C.2.1 d_Model_text_23 rfl (lv_at hl 2 rfl) ?_
    refine lv_aload_n C.1 C.2.1 d_Model_text_24 rfl (lv_at hl 0 rfl) ?_
    refine r_get C Z 0 f_Model_19 rfl rfl d_Model_text_25 ?_
    refine lv_iload_n C.1 C.2.1 d_Model_text_28 rfl (lv_at hl 1 rfl) ?_
    refine r_ildN C Z 2 rfl (by omega) (by decide) d_Model_text_29 ?_
    refine lv_aload_n C.1 C.2.1 d_Model_text_30 rfl (lv_at hl 0 rfl) ?_
    refine r_get C Z 0 f_Model_16 rfl rfl d_Model_text_31 ?_
    refine lv_iload_n C.1 C.2.1 d_Model_text_34 rfl (lv_at hl 1 rfl) ?_
    refine r_ildN C Z 1 rfl (by omega) (by decide) d_Model_text_35 ?_
    refine r_sub C (by omega) d_Model_text_36 ?_
    refine lv_icmp_ge (tgt := 56) C.1 C.2.1 d_Model_text_37 (by decide) (fun h37 => ?_) (fun h37 => ?_)
    · skip
      refine lv_iconst (v := (-1)) C.1 C.2.1 d_Model_text_56 (by decide) ?_
      exact r_iret C Z () (by first | exact ⟨rfl, rfl⟩ | (clear C Z hl; simp [h7, h16, h20, h37]; done) | (clear C Z hl; grind)) rfl hQ d_Model_text_57
    · skip
      exact (hy.elim (fun q => h20 q) (fun q => h37 q)).elim

set_option maxHeartbeats 4000000 in
set_option maxRecDepth 100000 in
theorem c_Model_text (l : Launch) (D : va_G) (cI cZ : ClassId) (mA ha tA bA eA zA wA pA oA : Nat) (n : Nat) (us : Nat) (en : Int32) (lf : Nat) (dp : Nat) (nx : Nat) (ou : Nat) (os : Nat) (fi : Nat) (me : Nat) (pu : Int32) (de : Nat) (fa : Nat) (pl : Int32) (na : Int32) (num : Int64) (tx : Nat → Nat) (bg : Nat → Nat) (ed : Nat → Nat) (hs : Nat → Nat) (k : Nat) (i : Nat) (hk : k < 26) (hhs : hs k = 1) (hbe : bg k ≤ ed k) (hed : ed k ≤ 2000) (hi : i < ed k - bg k) : Mi l y_Model_text b_Model_text 3 (some .int) ({ frames := 0, cells := 0, slots := 0, locals := 0 } : Room) D cI cZ [.ref mA, .int (nI k), .int (nI i)] [(mA, .inr (3, [.ref ha, .int (nI n), .ref tA, .int (nI us), .ref bA, .ref eA, .ref zA, .int en, .ref wA, .int (nI lf), .ref pA, .int (nI dp), .int (nI nx), .int (nI ou), .ref oA, .int (nI os), .int (nI fi), .int (nI me), .int pu, .int (nI de), .int (nI fa), .int pl, .int na, .long num])), (tA, .inl (cI, 2000, .inl (aN tx))), (bA, .inl (cI, 26, .inl (aN bg))), (eA, .inl (cI, 26, .inl (aN ed))), (zA, .inl (cZ, 26, .inl (aN hs)))] (fun (r : Int32) (u : Unit) => r = nI (tx (bg k + i)) ∧ u = ()) (fun u : Unit => [(mA, .inr (3, [.ref ha, .int (nI n), .ref tA, .int (nI us), .ref bA, .ref eA, .ref zA, .int en, .ref wA, .int (nI lf), .ref pA, .int (nI dp), .int (nI nx), .int (nI ou), .ref oA, .int (nI os), .int (nI fi), .int (nI me), .int pu, .int (nI de), .int (nI fa), .int pl, .int na, .long num])), (tA, .inl (cI, 2000, .inl (aN tx))), (bA, .inl (cI, 26, .inl (aN bg))), (eA, .inl (cI, 26, .inl (aN ed))), (zA, .inl (cZ, 26, .inl (aN hs)))]) := by
  refine Mi.intro (by decide) (Nat.le_of_ble_eq_true rfl) ?_
  intro p e s m args below meth cd A ls R Q hR hQ C Z hl
  have hl : lv_has ls 3 [(0, .ref mA), (1, .int (nI k)), (2, .int (nI i))] := hl
  refine lv_iload_n C.1 C.2.1 d_Model_text_0 rfl (lv_at hl 1 rfl) ?_
  refine r_zlt (tgt := 56) C d_Model_text_1 (by decide) (by omega) ?_
  refine lv_iload_n C.1 C.2.1 d_Model_text_4 rfl (lv_at hl 1 rfl) ?_
  refine lv_bipush (v := nI 26) C.1 C.2.1 d_Model_text_5 (by decide) ?_
  refine r_ge (tgt := 56) C d_Model_text_7 (by decide) (by omega) (by omega) (fun h7 => (by omega : False).elim) (fun h7 => ?_)
  refine lv_aload_n C.1 C.2.1 d_Model_text_10 rfl (lv_at hl 0 rfl) ?_
  refine r_get C Z 0 f_Model_22 rfl rfl d_Model_text_11 ?_
  refine lv_iload_n C.1 C.2.1 d_Model_text_14 rfl (lv_at hl 1 rfl) ?_
  refine r_zldN C Z 4 rfl (by omega) (by decide) d_Model_text_15 ?_
  refine r_zeq (tgt := 56) C d_Model_text_16 (by decide) (by omega) (fun h16 => (by omega : False).elim) (fun h16 => ?_)
  refine lv_iload_n C.1 C.2.1 d_Model_text_19 rfl (lv_at hl 2 rfl) ?_
  refine r_zlt (tgt := 56) C d_Model_text_20 (by decide) (by omega) ?_
  refine lv_iload_n C.1 C.2.1 d_Model_text_23 rfl (lv_at hl 2 rfl) ?_
  refine lv_aload_n C.1 C.2.1 d_Model_text_24 rfl (lv_at hl 0 rfl) ?_
  refine r_get C Z 0 f_Model_19 rfl rfl d_Model_text_25 ?_
  refine lv_iload_n C.1 C.2.1 d_Model_text_28 rfl (lv_at hl 1 rfl) ?_
  refine r_ildN C Z 3 rfl (by omega) (by decide) d_Model_text_29 ?_
  refine lv_aload_n C.1 C.2.1 d_Model_text_30 rfl (lv_at hl 0 rfl) ?_
  refine r_get C Z 0 f_Model_16 rfl rfl d_Model_text_31 ?_
  refine lv_iload_n C.1 C.2.1 d_Model_text_34 rfl (lv_at hl 1 rfl) ?_
  refine r_ildN C Z 2 rfl (by omega) (by decide) d_Model_text_35 ?_
  refine r_sub C (by omega) d_Model_text_36 ?_
  refine r_ge (tgt := 56) C d_Model_text_37 (by decide) (by omega) (by omega) (fun h37 => (by omega : False).elim) (fun h37 => ?_)
  refine lv_aload_n C.1 C.2.1 d_Model_text_40 rfl (lv_at hl 0 rfl) ?_
  refine r_get C Z 0 f_Model_13 rfl rfl d_Model_text_41 ?_
  refine lv_aload_n C.1 C.2.1 d_Model_text_44 rfl (lv_at hl 0 rfl) ?_
  refine r_get C Z 0 f_Model_16 rfl rfl d_Model_text_45 ?_
  refine lv_iload_n C.1 C.2.1 d_Model_text_48 rfl (lv_at hl 1 rfl) ?_
  refine r_ildN C Z 2 rfl (by omega) (by decide) d_Model_text_49 ?_
  refine lv_iload_n C.1 C.2.1 d_Model_text_50 rfl (lv_at hl 2 rfl) ?_
  refine r_add C d_Model_text_51 ?_
  refine r_ildN C Z 1 rfl (by omega) (by decide) d_Model_text_52 ?_
  refine lv_goto (tgt := 57) C.1 C.2.1 d_Model_text_53 (by decide) ?_
  exact r_iret C Z () (by first | exact ⟨rfl, rfl⟩ | (clear C Z hl; simp [h7, h16, h37]; done) | (clear C Z hl; grind)) rfl hQ d_Model_text_57

set_option maxHeartbeats 4000000 in
set_option maxRecDepth 100000 in
theorem c_Model_count0 (l : Launch) (D : va_G) (cI cZ : ClassId) (mA ha tA bA eA zA wA pA oA : Nat) (n : Nat) (us : Nat) (en : Int32) (lf : Nat) (dp : Nat) (nx : Nat) (ou : Nat) (os : Nat) (fi : Nat) (me : Nat) (pu : Int32) (de : Nat) (fa : Nat) (pl : Int32) (na : Int32) (num : Int64) : Mi l y_Model_count b_Model_count 2 (some .int) ({ frames := 0, cells := 0, slots := 0, locals := 0 } : Room) D cI cZ [.ref mA, .int (nI 0)] [(mA, .inr (3, [.ref ha, .int (nI n), .ref tA, .int (nI us), .ref bA, .ref eA, .ref zA, .int en, .ref wA, .int (nI lf), .ref pA, .int (nI dp), .int (nI nx), .int (nI ou), .ref oA, .int (nI os), .int (nI fi), .int (nI me), .int pu, .int (nI de), .int (nI fa), .int pl, .int na, .long num]))] (fun (r : Int32) (u : Unit) => r = en ∧ u = ()) (fun u : Unit => [(mA, .inr (3, [.ref ha, .int (nI n), .ref tA, .int (nI us), .ref bA, .ref eA, .ref zA, .int en, .ref wA, .int (nI lf), .ref pA, .int (nI dp), .int (nI nx), .int (nI ou), .ref oA, .int (nI os), .int (nI fi), .int (nI me), .int pu, .int (nI de), .int (nI fa), .int pl, .int na, .long num]))]) := by
  refine Mi.intro (by decide) (Nat.le_of_ble_eq_true rfl) ?_
  intro p e s m args below meth cd A ls R Q hR hQ C Z hl
  have hl : lv_has ls 2 [(0, .ref mA), (1, .int (nI 0))] := hl
  refine lv_iload_n C.1 C.2.1 d_Model_count_0 rfl (lv_at hl 1 rfl) ?_
  refine lv_tableIn (tgt := 40) (off := 39) C.1 C.2.1 d_Model_count_1 (by decide) (by decide) (by decide) (by decide) ?_
  refine lv_aload_n C.1 C.2.1 d_Model_count_40 rfl (lv_at hl 0 rfl) ?_
  refine r_get C Z 0 f_Model_105 rfl rfl d_Model_count_41 ?_
  exact r_iret C Z () (by first | exact ⟨rfl, rfl⟩ | (clear C Z hl; grind)) rfl hQ d_Model_count_44

set_option maxHeartbeats 4000000 in
set_option maxRecDepth 100000 in
theorem c_Model_count1 (l : Launch) (D : va_G) (cI cZ : ClassId) (mA ha tA bA eA zA wA pA oA : Nat) (n : Nat) (us : Nat) (en : Int32) (lf : Nat) (dp : Nat) (nx : Nat) (ou : Nat) (os : Nat) (fi : Nat) (me : Nat) (pu : Int32) (de : Nat) (fa : Nat) (pl : Int32) (na : Int32) (num : Int64) : Mi l y_Model_count b_Model_count 2 (some .int) ({ frames := 0, cells := 0, slots := 0, locals := 0 } : Room) D cI cZ [.ref mA, .int (nI 1)] [(mA, .inr (3, [.ref ha, .int (nI n), .ref tA, .int (nI us), .ref bA, .ref eA, .ref zA, .int en, .ref wA, .int (nI lf), .ref pA, .int (nI dp), .int (nI nx), .int (nI ou), .ref oA, .int (nI os), .int (nI fi), .int (nI me), .int pu, .int (nI de), .int (nI fa), .int pl, .int na, .long num]))] (fun (r : Int32) (u : Unit) => r = nI us ∧ u = ()) (fun u : Unit => [(mA, .inr (3, [.ref ha, .int (nI n), .ref tA, .int (nI us), .ref bA, .ref eA, .ref zA, .int en, .ref wA, .int (nI lf), .ref pA, .int (nI dp), .int (nI nx), .int (nI ou), .ref oA, .int (nI os), .int (nI fi), .int (nI me), .int pu, .int (nI de), .int (nI fa), .int pl, .int na, .long num]))]) := by
  refine Mi.intro (by decide) (Nat.le_of_ble_eq_true rfl) ?_
  intro p e s m args below meth cd A ls R Q hR hQ C Z hl
  have hl : lv_has ls 2 [(0, .ref mA), (1, .int (nI 1))] := hl
  refine lv_iload_n C.1 C.2.1 d_Model_count_0 rfl (lv_at hl 1 rfl) ?_
  refine lv_tableIn (tgt := 45) (off := 44) C.1 C.2.1 d_Model_count_1 (by decide) (by decide) (by decide) (by decide) ?_
  refine lv_aload_n C.1 C.2.1 d_Model_count_45 rfl (lv_at hl 0 rfl) ?_
  refine r_get C Z 0 f_Model_98 rfl rfl d_Model_count_46 ?_
  exact r_iret C Z () (by first | exact ⟨rfl, rfl⟩ | (clear C Z hl; grind)) rfl hQ d_Model_count_49

set_option maxHeartbeats 4000000 in
set_option maxRecDepth 100000 in
theorem c_Model_count2 (l : Launch) (D : va_G) (cI cZ : ClassId) (mA ha tA bA eA zA wA pA oA : Nat) (n : Nat) (us : Nat) (en : Int32) (lf : Nat) (dp : Nat) (nx : Nat) (ou : Nat) (os : Nat) (fi : Nat) (me : Nat) (pu : Int32) (de : Nat) (fa : Nat) (pl : Int32) (na : Int32) (num : Int64) : Mi l y_Model_count b_Model_count 2 (some .int) ({ frames := 0, cells := 0, slots := 0, locals := 0 } : Room) D cI cZ [.ref mA, .int (nI 2)] [(mA, .inr (3, [.ref ha, .int (nI n), .ref tA, .int (nI us), .ref bA, .ref eA, .ref zA, .int en, .ref wA, .int (nI lf), .ref pA, .int (nI dp), .int (nI nx), .int (nI ou), .ref oA, .int (nI os), .int (nI fi), .int (nI me), .int pu, .int (nI de), .int (nI fa), .int pl, .int na, .long num]))] (fun (r : Int32) (u : Unit) => r = nI me ∧ u = ()) (fun u : Unit => [(mA, .inr (3, [.ref ha, .int (nI n), .ref tA, .int (nI us), .ref bA, .ref eA, .ref zA, .int en, .ref wA, .int (nI lf), .ref pA, .int (nI dp), .int (nI nx), .int (nI ou), .ref oA, .int (nI os), .int (nI fi), .int (nI me), .int pu, .int (nI de), .int (nI fa), .int pl, .int na, .long num]))]) := by
  refine Mi.intro (by decide) (Nat.le_of_ble_eq_true rfl) ?_
  intro p e s m args below meth cd A ls R Q hR hQ C Z hl
  have hl : lv_has ls 2 [(0, .ref mA), (1, .int (nI 2))] := hl
  refine lv_iload_n C.1 C.2.1 d_Model_count_0 rfl (lv_at hl 1 rfl) ?_
  refine lv_tableIn (tgt := 50) (off := 49) C.1 C.2.1 d_Model_count_1 (by decide) (by decide) (by decide) (by decide) ?_
  refine lv_aload_n C.1 C.2.1 d_Model_count_50 rfl (lv_at hl 0 rfl) ?_
  refine r_get C Z 0 f_Model_108 rfl rfl d_Model_count_51 ?_
  exact r_iret C Z () (by first | exact ⟨rfl, rfl⟩ | (clear C Z hl; grind)) rfl hQ d_Model_count_54

set_option maxHeartbeats 4000000 in
set_option maxRecDepth 100000 in
theorem c_Model_count3 (l : Launch) (D : va_G) (cI cZ : ClassId) (mA ha tA bA eA zA wA pA oA : Nat) (n : Nat) (us : Nat) (en : Int32) (lf : Nat) (dp : Nat) (nx : Nat) (ou : Nat) (os : Nat) (fi : Nat) (me : Nat) (pu : Int32) (de : Nat) (fa : Nat) (pl : Int32) (na : Int32) (num : Int64) : Mi l y_Model_count b_Model_count 2 (some .int) ({ frames := 0, cells := 0, slots := 0, locals := 0 } : Room) D cI cZ [.ref mA, .int (nI 3)] [(mA, .inr (3, [.ref ha, .int (nI n), .ref tA, .int (nI us), .ref bA, .ref eA, .ref zA, .int en, .ref wA, .int (nI lf), .ref pA, .int (nI dp), .int (nI nx), .int (nI ou), .ref oA, .int (nI os), .int (nI fi), .int (nI me), .int pu, .int (nI de), .int (nI fa), .int pl, .int na, .long num]))] (fun (r : Int32) (u : Unit) => r = nI n ∧ u = ()) (fun u : Unit => [(mA, .inr (3, [.ref ha, .int (nI n), .ref tA, .int (nI us), .ref bA, .ref eA, .ref zA, .int en, .ref wA, .int (nI lf), .ref pA, .int (nI dp), .int (nI nx), .int (nI ou), .ref oA, .int (nI os), .int (nI fi), .int (nI me), .int pu, .int (nI de), .int (nI fa), .int pl, .int na, .long num]))]) := by
  refine Mi.intro (by decide) (Nat.le_of_ble_eq_true rfl) ?_
  intro p e s m args below meth cd A ls R Q hR hQ C Z hl
  have hl : lv_has ls 2 [(0, .ref mA), (1, .int (nI 3))] := hl
  refine lv_iload_n C.1 C.2.1 d_Model_count_0 rfl (lv_at hl 1 rfl) ?_
  refine lv_tableIn (tgt := 55) (off := 54) C.1 C.2.1 d_Model_count_1 (by decide) (by decide) (by decide) (by decide) ?_
  refine lv_aload_n C.1 C.2.1 d_Model_count_55 rfl (lv_at hl 0 rfl) ?_
  refine r_get C Z 0 f_Model_39 rfl rfl d_Model_count_56 ?_
  exact r_iret C Z () (by first | exact ⟨rfl, rfl⟩ | (clear C Z hl; grind)) rfl hQ d_Model_count_59

set_option maxHeartbeats 4000000 in
set_option maxRecDepth 100000 in
theorem c_Model_count4 (l : Launch) (D : va_G) (cI cZ : ClassId) (mA ha tA bA eA zA wA pA oA : Nat) (n : Nat) (us : Nat) (en : Int32) (lf : Nat) (dp : Nat) (nx : Nat) (ou : Nat) (os : Nat) (fi : Nat) (me : Nat) (pu : Int32) (de : Nat) (fa : Nat) (pl : Int32) (na : Int32) (num : Int64) : Mi l y_Model_count b_Model_count 2 (some .int) ({ frames := 0, cells := 0, slots := 0, locals := 0 } : Room) D cI cZ [.ref mA, .int (nI 4)] [(mA, .inr (3, [.ref ha, .int (nI n), .ref tA, .int (nI us), .ref bA, .ref eA, .ref zA, .int en, .ref wA, .int (nI lf), .ref pA, .int (nI dp), .int (nI nx), .int (nI ou), .ref oA, .int (nI os), .int (nI fi), .int (nI me), .int pu, .int (nI de), .int (nI fa), .int pl, .int na, .long num]))] (fun (r : Int32) (u : Unit) => r = pu ∧ u = ()) (fun u : Unit => [(mA, .inr (3, [.ref ha, .int (nI n), .ref tA, .int (nI us), .ref bA, .ref eA, .ref zA, .int en, .ref wA, .int (nI lf), .ref pA, .int (nI dp), .int (nI nx), .int (nI ou), .ref oA, .int (nI os), .int (nI fi), .int (nI me), .int pu, .int (nI de), .int (nI fa), .int pl, .int na, .long num]))]) := by
  refine Mi.intro (by decide) (Nat.le_of_ble_eq_true rfl) ?_
  intro p e s m args below meth cd A ls R Q hR hQ C Z hl
  have hl : lv_has ls 2 [(0, .ref mA), (1, .int (nI 4))] := hl
  refine lv_iload_n C.1 C.2.1 d_Model_count_0 rfl (lv_at hl 1 rfl) ?_
  refine lv_tableIn (tgt := 60) (off := 59) C.1 C.2.1 d_Model_count_1 (by decide) (by decide) (by decide) (by decide) ?_
  refine lv_aload_n C.1 C.2.1 d_Model_count_60 rfl (lv_at hl 0 rfl) ?_
  refine r_get C Z 0 f_Model_111 rfl rfl d_Model_count_61 ?_
  exact r_iret C Z () (by first | exact ⟨rfl, rfl⟩ | (clear C Z hl; grind)) rfl hQ d_Model_count_64

set_option maxHeartbeats 4000000 in
set_option maxRecDepth 100000 in
theorem c_Model_count5 (l : Launch) (D : va_G) (cI cZ : ClassId) (mA ha tA bA eA zA wA pA oA : Nat) (n : Nat) (us : Nat) (en : Int32) (lf : Nat) (dp : Nat) (nx : Nat) (ou : Nat) (os : Nat) (fi : Nat) (me : Nat) (pu : Int32) (de : Nat) (fa : Nat) (pl : Int32) (na : Int32) (num : Int64) : Mi l y_Model_count b_Model_count 2 (some .int) ({ frames := 0, cells := 0, slots := 0, locals := 0 } : Room) D cI cZ [.ref mA, .int (nI 5)] [(mA, .inr (3, [.ref ha, .int (nI n), .ref tA, .int (nI us), .ref bA, .ref eA, .ref zA, .int en, .ref wA, .int (nI lf), .ref pA, .int (nI dp), .int (nI nx), .int (nI ou), .ref oA, .int (nI os), .int (nI fi), .int (nI me), .int pu, .int (nI de), .int (nI fa), .int pl, .int na, .long num]))] (fun (r : Int32) (u : Unit) => r = nI de ∧ u = ()) (fun u : Unit => [(mA, .inr (3, [.ref ha, .int (nI n), .ref tA, .int (nI us), .ref bA, .ref eA, .ref zA, .int en, .ref wA, .int (nI lf), .ref pA, .int (nI dp), .int (nI nx), .int (nI ou), .ref oA, .int (nI os), .int (nI fi), .int (nI me), .int pu, .int (nI de), .int (nI fa), .int pl, .int na, .long num]))]) := by
  refine Mi.intro (by decide) (Nat.le_of_ble_eq_true rfl) ?_
  intro p e s m args below meth cd A ls R Q hR hQ C Z hl
  have hl : lv_has ls 2 [(0, .ref mA), (1, .int (nI 5))] := hl
  refine lv_iload_n C.1 C.2.1 d_Model_count_0 rfl (lv_at hl 1 rfl) ?_
  refine lv_tableIn (tgt := 65) (off := 64) C.1 C.2.1 d_Model_count_1 (by decide) (by decide) (by decide) (by decide) ?_
  refine lv_aload_n C.1 C.2.1 d_Model_count_65 rfl (lv_at hl 0 rfl) ?_
  refine r_get C Z 0 f_Model_114 rfl rfl d_Model_count_66 ?_
  exact r_iret C Z () (by first | exact ⟨rfl, rfl⟩ | (clear C Z hl; grind)) rfl hQ d_Model_count_69

set_option maxHeartbeats 4000000 in
set_option maxRecDepth 100000 in
theorem c_Model_countBad (l : Launch) (D : va_G) (cI cZ : ClassId) (mA ha tA bA eA zA wA pA oA : Nat) (n : Nat) (us : Nat) (en : Int32) (lf : Nat) (dp : Nat) (nx : Nat) (ou : Nat) (os : Nat) (fi : Nat) (me : Nat) (pu : Int32) (de : Nat) (fa : Nat) (pl : Int32) (na : Int32) (num : Int64) (x : Int32) (hx : x.toInt < 0 ∨ 5 < x.toInt) : Mi l y_Model_count b_Model_count 2 (some .int) ({ frames := 0, cells := 0, slots := 0, locals := 0 } : Room) D cI cZ [.ref mA, .int x] [(mA, .inr (3, [.ref ha, .int (nI n), .ref tA, .int (nI us), .ref bA, .ref eA, .ref zA, .int en, .ref wA, .int (nI lf), .ref pA, .int (nI dp), .int (nI nx), .int (nI ou), .ref oA, .int (nI os), .int (nI fi), .int (nI me), .int pu, .int (nI de), .int (nI fa), .int pl, .int na, .long num]))] (fun (r : Int32) (u : Unit) => r = (-1) ∧ u = ()) (fun u : Unit => [(mA, .inr (3, [.ref ha, .int (nI n), .ref tA, .int (nI us), .ref bA, .ref eA, .ref zA, .int en, .ref wA, .int (nI lf), .ref pA, .int (nI dp), .int (nI nx), .int (nI ou), .ref oA, .int (nI os), .int (nI fi), .int (nI me), .int pu, .int (nI de), .int (nI fa), .int pl, .int na, .long num]))]) := by
  refine Mi.intro (by decide) (Nat.le_of_ble_eq_true rfl) ?_
  intro p e s m args below meth cd A ls R Q hR hQ C Z hl
  have hl : lv_has ls 2 [(0, .ref mA), (1, .int x)] := hl
  refine lv_iload_n C.1 C.2.1 d_Model_count_0 rfl (lv_at hl 1 rfl) ?_
  refine lv_tableOut (tgt := 70) C.1 C.2.1 d_Model_count_1 hx (by decide) ?_
  refine lv_iconst (v := (-1)) C.1 C.2.1 d_Model_count_70 (by decide) ?_
  exact r_iret C Z () (by first | exact ⟨rfl, rfl⟩ | (clear C Z hl; grind)) rfl hQ d_Model_count_71

set_option maxHeartbeats 4000000 in
set_option maxRecDepth 100000 in
theorem c_Model_declareBad (l : Launch) (D : va_G) (cI cZ : ClassId) (mA ha tA bA eA zA wA pA oA : Nat) (n : Nat) (us : Nat) (en : Int32) (lf : Nat) (dp : Nat) (nx : Nat) (ou : Nat) (os : Nat) (fi : Nat) (me : Nat) (pu : Int32) (de : Nat) (fa : Nat) (pl : Int32) (na : Int32) (num : Int64) (x : Int32) (hx : x < 0 ∨ nI 25 < x) : Mi l y_Model_declare b_Model_declare 9 (some .int) ({ frames := 0, cells := 0, slots := 0, locals := 0 } : Room) D cI cZ [.ref mA, .int x] [(mA, .inr (3, [.ref ha, .int (nI n), .ref tA, .int (nI us), .ref bA, .ref eA, .ref zA, .int en, .ref wA, .int (nI lf), .ref pA, .int (nI dp), .int (nI nx), .int (nI ou), .ref oA, .int (nI os), .int (nI fi), .int (nI me), .int pu, .int (nI de), .int (nI fa), .int pl, .int na, .long num]))] (fun (r : Int32) (u : Unit) => r = (-102) ∧ u = ()) (fun u : Unit => [(mA, .inr (3, [.ref ha, .int (nI n), .ref tA, .int (nI us), .ref bA, .ref eA, .ref zA, .int en, .ref wA, .int (nI lf), .ref pA, .int (nI dp), .int (nI nx), .int (nI ou), .ref oA, .int (nI os), .int (nI fi), .int (nI me), .int pu, .int (nI de), .int (nI fa), .int pl, .int na, .long num]))]) := by
  refine Mi.intro (by decide) (Nat.le_of_ble_eq_true rfl) ?_
  intro p e s m args below meth cd A ls R Q hR hQ C Z hl
  have hl : lv_has ls 9 [(0, .ref mA), (1, .int x)] := hl
  refine lv_iload_n C.1 C.2.1 d_Model_declare_0 rfl (lv_at hl 1 rfl) ?_
  refine lv_if_lt (tgt := 10) C.1 C.2.1 d_Model_declare_1 (by decide) (fun h1 => ?_) (fun h1 => ?_)
  · skip
    refine lv_bipush (v := (-102)) C.1 C.2.1 d_Model_declare_10 (by decide) ?_
    exact r_iret C Z () (by first | exact ⟨rfl, rfl⟩ | (clear C Z hl; simp [h1]; done) | (clear C Z hl; grind)) rfl hQ d_Model_declare_12
  · skip
    refine lv_iload_n C.1 C.2.1 d_Model_declare_4 rfl (lv_at hl 1 rfl) ?_
    refine lv_bipush (v := nI 25) C.1 C.2.1 d_Model_declare_5 (by decide) ?_
    refine lv_icmp_le (tgt := 13) C.1 C.2.1 d_Model_declare_7 (by decide) (fun h7 => ?_) (fun h7 => ?_)
    · skip
      exact (hx.elim (fun q => h1 q) (fun q => Int32.not_le.mpr q h7)).elim
    · skip
      refine lv_bipush (v := (-102)) C.1 C.2.1 d_Model_declare_10 (by decide) ?_
      exact r_iret C Z () (by first | exact ⟨rfl, rfl⟩ | (clear C Z hl; simp [h1, h7]; done) | (clear C Z hl; grind)) rfl hQ d_Model_declare_12
