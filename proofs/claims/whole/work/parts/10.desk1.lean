set_option maxHeartbeats 4000000 in
set_option maxRecDepth 100000 in
theorem c_Desk_isName (l : Launch) (D : va_G) (cI cZ : ClassId) (k : Nat) (hk : k < 26) : Mi l y_Desk_isName b_Desk_isName 1 (some .boolean) ({ frames := 0, cells := 0, slots := 0, locals := 0 } : Room) D cI cZ [.int (nI k)] [] (fun (r : Int32) (u : Unit) => r = nI 1 ∧ u = ()) (fun u : Unit => []) := by
  refine Mi.intro (by decide) (Nat.le_of_ble_eq_true rfl) ?_
  intro p e s m args below meth cd A ls R Q hR hQ C Z hl
  have hl : lv_has ls 1 [(0, .int (nI k))] := hl
  refine lv_iload_n C.1 C.2.1 d_Desk_isName_0 rfl (lv_at hl 0 rfl) ?_
  refine r_zlt (tgt := 14) C d_Desk_isName_1 (by decide) (by omega) ?_
  refine lv_iload_n C.1 C.2.1 d_Desk_isName_4 rfl (lv_at hl 0 rfl) ?_
  refine lv_bipush (v := nI 26) C.1 C.2.1 d_Desk_isName_5 (by decide) ?_
  refine r_ge (tgt := 14) C d_Desk_isName_7 (by decide) (by omega) (by omega) (fun h7 => (by omega : False).elim) (fun h7 => ?_)
  refine lv_iconst (v := nI 1) C.1 C.2.1 d_Desk_isName_10 (by decide) ?_
  refine lv_goto (tgt := 15) C.1 C.2.1 d_Desk_isName_11 (by decide) ?_
  exact r_zret C Z (by omega) () (by first | exact ⟨rfl, rfl⟩ | (clear C Z hl; simp [h7]; done) | (clear C Z hl; grind)) rfl hQ d_Desk_isName_15

set_option maxHeartbeats 4000000 in
set_option maxRecDepth 100000 in
theorem c_Desk_isNameBad (l : Launch) (D : va_G) (cI cZ : ClassId) (x : Int32) (hx : x < 0 ∨ nI 26 ≤ x) : Mi l y_Desk_isName b_Desk_isName 1 (some .boolean) ({ frames := 0, cells := 0, slots := 0, locals := 0 } : Room) D cI cZ [.int x] [] (fun (r : Int32) (u : Unit) => r = nI 0 ∧ u = ()) (fun u : Unit => []) := by
  refine Mi.intro (by decide) (Nat.le_of_ble_eq_true rfl) ?_
  intro p e s m args below meth cd A ls R Q hR hQ C Z hl
  have hl : lv_has ls 1 [(0, .int x)] := hl
  refine lv_iload_n C.1 C.2.1 d_Desk_isName_0 rfl (lv_at hl 0 rfl) ?_
  refine lv_if_lt (tgt := 14) C.1 C.2.1 d_Desk_isName_1 (by decide) (fun h1 => ?_) (fun h1 => ?_)
  · skip
    refine lv_iconst (v := nI 0) C.1 C.2.1 d_Desk_isName_14 (by decide) ?_
    exact r_zret C Z (by omega) () (by first | exact ⟨rfl, rfl⟩ | (rcases hx with hx | hx <;> contradiction)) rfl hQ d_Desk_isName_15
  · skip
    refine lv_iload_n C.1 C.2.1 d_Desk_isName_4 rfl (lv_at hl 0 rfl) ?_
    refine lv_bipush (v := nI 26) C.1 C.2.1 d_Desk_isName_5 (by decide) ?_
    refine lv_icmp_ge (tgt := 14) C.1 C.2.1 d_Desk_isName_7 (by decide) (fun h7 => ?_) (fun h7 => ?_)
    · skip
      refine lv_iconst (v := nI 0) C.1 C.2.1 d_Desk_isName_14 (by decide) ?_
      exact r_zret C Z (by omega) () (by first | exact ⟨rfl, rfl⟩ | (rcases hx with hx | hx <;> contradiction)) rfl hQ d_Desk_isName_15
    · skip
      refine lv_iconst (v := nI 1) C.1 C.2.1 d_Desk_isName_10 (by decide) ?_
      refine lv_goto (tgt := 15) C.1 C.2.1 d_Desk_isName_11 (by decide) ?_
      exact r_zret C Z (by omega) () (by first | exact ⟨rfl, rfl⟩ | (rcases hx with hx | hx <;> contradiction)) rfl hQ d_Desk_isName_15

set_option maxHeartbeats 4000000 in
set_option maxRecDepth 100000 in
theorem c_Desk_beginReading (l : Launch) (D : va_G) (cI cZ : ClassId) (dA hA eA rA oA pA : Nat) (n : Nat) (fa : Nat) (fp : Int32) (op : Nat) (ol : Nat) (ml : Nat) (me : Nat) (pu : Int32) (de : Nat) (st : Nat) (nm : Nat) (nu : Nat) : Mv l y_Desk_beginReading b_Desk_beginReading 1 ({ frames := 1, cells := 0, slots := 0, locals := 20 } : Room) D cI cZ [.ref dA] [(dA, .inr (0, [.ref hA, .int (nI n), .ref eA, .ref rA, .int (nI fa), .int fp, .int (nI op), .ref oA, .int (nI ol), .ref pA, .int (nI ml), .int (nI me), .int pu, .int (nI de)])), (rA, .inr (2, [.int (nI st), .int (nI nm), .int (nI nu)]))] (fun u : Nat × Int32 × Nat × Nat => u = (0, (-1), 0, 0)) (fun u : Nat × Int32 × Nat × Nat => [(dA, .inr (0, [.ref hA, .int (nI n), .ref eA, .ref rA, .int (nI u.1), .int u.2.1, .int (nI u.2.2.1), .ref oA, .int (nI ol), .ref pA, .int (nI ml), .int (nI me), .int pu, .int (nI de)])), (rA, .inr (2, [.int (nI u.2.2.2), .int (nI nm), .int (nI nu)]))]) 0 0 := by
  refine Mv.intro (by decide) (Nat.le_of_ble_eq_true rfl) ?_
  intro p e s m args below meth cd A ls R Q hR hQ C hin Z hl
  have hl : lv_has ls 1 [(0, .ref dA)] := hl
  refine lv_aload_n C.1 C.2.1 d_Desk_beginReading_0 rfl (lv_at hl 0 rfl) ?_
  refine lv_iconst (v := nI 0) C.1 C.2.1 d_Desk_beginReading_1 (by decide) ?_
  refine r_put (ws' := [(dA, .inr (0, [.ref hA, .int (nI n), .ref eA, .ref rA, .int (nI 0), .int fp, .int (nI op), .ref oA, .int (nI ol), .ref pA, .int (nI ml), .int (nI me), .int pu, .int (nI de)])), (rA, .inr (2, [.int (nI st), .int (nI nm), .int (nI nu)]))]) C Z 0 f_Desk_31 rfl rfl rfl (Nat.le_of_ble_eq_true rfl) rfl d_Desk_beginReading_2 (fun H locs Z => ?_)
  refine lv_aload_n C.1 C.2.1 d_Desk_beginReading_5 rfl (lv_at hl 0 rfl) ?_
  refine lv_iconst (v := (-1)) C.1 C.2.1 d_Desk_beginReading_6 (by decide) ?_
  refine r_put (ws' := [(dA, .inr (0, [.ref hA, .int (nI n), .ref eA, .ref rA, .int (nI 0), .int (-1), .int (nI op), .ref oA, .int (nI ol), .ref pA, .int (nI ml), .int (nI me), .int pu, .int (nI de)])), (rA, .inr (2, [.int (nI st), .int (nI nm), .int (nI nu)]))]) C Z 0 f_Desk_34 rfl rfl rfl (Nat.le_of_ble_eq_true rfl) rfl d_Desk_beginReading_7 (fun H locs Z => ?_)
  refine lv_aload_n C.1 C.2.1 d_Desk_beginReading_10 rfl (lv_at hl 0 rfl) ?_
  refine lv_iconst (v := nI 0) C.1 C.2.1 d_Desk_beginReading_11 (by decide) ?_
  refine r_put (ws' := [(dA, .inr (0, [.ref hA, .int (nI n), .ref eA, .ref rA, .int (nI 0), .int (-1), .int (nI 0), .ref oA, .int (nI ol), .ref pA, .int (nI ml), .int (nI me), .int pu, .int (nI de)])), (rA, .inr (2, [.int (nI st), .int (nI nm), .int (nI nu)]))]) C Z 0 f_Desk_37 rfl rfl rfl (Nat.le_of_ble_eq_true rfl) rfl d_Desk_beginReading_12 (fun H locs Z => ?_)
  refine lv_aload_n C.1 C.2.1 d_Desk_beginReading_15 rfl (lv_at hl 0 rfl) ?_
  refine r_get C Z 0 f_Desk_27 rfl rfl d_Desk_beginReading_16 ?_
  refine r_callNv (rest := []) (wr := [(dA, .inr (0, [.ref hA, .int (nI n), .ref eA, .ref rA, .int (nI 0), .int (-1), .int (nI 0), .ref oA, .int (nI ol), .ref pA, .int (nI ml), .int (nI me), .int pu, .int (nI de)]))]) (wn := fun u => [(dA, .inr (0, [.ref hA, .int (nI n), .ref eA, .ref rA, .int (nI 0), .int (-1), .int (nI 0), .ref oA, .int (nI ol), .ref pA, .int (nI ml), .int (nI me), .int pu, .int (nI de)])), (rA, .inr (2, [.int (nI u), .int (nI nm), .int (nI nu)]))]) C Z (c_Reader_begin l D cI cZ rA st nm nu) k_Desk_102 rfl ⟨by rw [hR]; decide, by rw [hR]; decide⟩ ⟨rfl, rfl⟩ [1] [0] [0, 1] (by decide) rfl rfl (by decide) (by decide) (by decide) (fun _ => rfl) 1 rfl rfl hl.1 rfl (Nat.le_of_ble_eq_true rfl) d_Desk_beginReading_19 ⟨Nat.zero_le _, Nat.zero_le _⟩ (fun u H locs hp Z => ?_)
  have hp := hp.symm; subst hp
  have Z : Wd D A s.heap [(dA, .inr (0, [.ref hA, .int (nI n), .ref eA, .ref rA, .int (nI 0), .int (-1), .int (nI 0), .ref oA, .int (nI ol), .ref pA, .int (nI ml), .int (nI me), .int pu, .int (nI de)])), (rA, .inr (2, [.int (nI 0), .int (nI nm), .int (nI nu)]))] H locs := Z
  exact r_vret C Z (0, (-1), 0, 0) (by first | exact rfl | (clear C Z hl; grind)) rfl hQ d_Desk_beginReading_22

set_option maxHeartbeats 4000000 in
set_option maxRecDepth 100000 in
theorem c_Desk_fail (l : Launch) (D : va_G) (cI cZ : ClassId) (dA hA eA rA oA pA : Nat) (n : Nat) (fa : Nat) (fp : Int32) (op : Nat) (ol : Nat) (ml : Nat) (me : Nat) (pu : Int32) (de : Nat) (w : Nat) (x : Int32) : Mv l y_Desk_fail b_Desk_fail 3 ({ frames := 0, cells := 0, slots := 0, locals := 0 } : Room) D cI cZ [.ref dA, .int (nI w), .int x] [(dA, .inr (0, [.ref hA, .int (nI n), .ref eA, .ref rA, .int (nI fa), .int fp, .int (nI op), .ref oA, .int (nI ol), .ref pA, .int (nI ml), .int (nI me), .int pu, .int (nI de)]))] (fun u : Nat × Int32 => u = (w, x)) (fun u : Nat × Int32 => [(dA, .inr (0, [.ref hA, .int (nI n), .ref eA, .ref rA, .int (nI u.1), .int u.2, .int (nI op), .ref oA, .int (nI ol), .ref pA, .int (nI ml), .int (nI me), .int pu, .int (nI de)]))]) 0 0 := by
  refine Mv.intro (by decide) (Nat.le_of_ble_eq_true rfl) ?_
  intro p e s m args below meth cd A ls R Q hR hQ C hin Z hl
  have hl : lv_has ls 3 [(0, .ref dA), (1, .int (nI w)), (2, .int x)] := hl
  refine lv_aload_n C.1 C.2.1 d_Desk_fail_0 rfl (lv_at hl 0 rfl) ?_
  refine lv_iload_n C.1 C.2.1 d_Desk_fail_1 rfl (lv_at hl 1 rfl) ?_
  refine r_put (ws' := [(dA, .inr (0, [.ref hA, .int (nI n), .ref eA, .ref rA, .int (nI w), .int fp, .int (nI op), .ref oA, .int (nI ol), .ref pA, .int (nI ml), .int (nI me), .int pu, .int (nI de)]))]) C Z 0 f_Desk_31 rfl rfl rfl (Nat.le_of_ble_eq_true rfl) rfl d_Desk_fail_2 (fun H locs Z => ?_)
  refine lv_aload_n C.1 C.2.1 d_Desk_fail_5 rfl (lv_at hl 0 rfl) ?_
  refine lv_iload_n C.1 C.2.1 d_Desk_fail_6 rfl (lv_at hl 2 rfl) ?_
  refine r_put (ws' := [(dA, .inr (0, [.ref hA, .int (nI n), .ref eA, .ref rA, .int (nI w), .int x, .int (nI op), .ref oA, .int (nI ol), .ref pA, .int (nI ml), .int (nI me), .int pu, .int (nI de)]))]) C Z 0 f_Desk_34 rfl rfl rfl (Nat.le_of_ble_eq_true rfl) rfl d_Desk_fail_7 (fun H locs Z => ?_)
  exact r_vret C Z (w, x) (by first | exact rfl | (clear C Z hl; grind)) rfl hQ d_Desk_fail_10

set_option maxHeartbeats 4000000 in
set_option maxRecDepth 100000 in
theorem c_Desk_readOn (l : Launch) (D : va_G) (cI cZ : ClassId) (dA hA eA rA oA pA : Nat) (n : Nat) (fa : Nat) (fp : Int32) (op : Nat) (ol : Nat) (ml : Nat) (me : Nat) (pu : Int32) (de : Nat) (st : Nat) (nm : Nat) (nu : Nat) (c : Nat) (x : Nat) (hst : st ≤ 6) (hnm : nm < 26) (hnu : nu ≤ 256) (hc : c < 256) : Mi l y_Desk_readOn b_Desk_readOn 4 (some .int) ({ frames := 3, cells := 0, slots := 0, locals := 66 } : Room) D cI cZ [.ref dA, .int (nI c), .int (nI x)] [(dA, .inr (0, [.ref hA, .int (nI n), .ref eA, .ref rA, .int (nI fa), .int fp, .int (nI op), .ref oA, .int (nI ol), .ref pA, .int (nI ml), .int (nI me), .int pu, .int (nI de)])), (rA, .inr (2, [.int (nI st), .int (nI nm), .int (nI nu)]))] (fun (r : Int32) (u : Nat × Int32 × Nat × Nat × Nat) => r = nI ((rdP st nm nu c).1) ∧ u = (fltK (rdP st nm nu c).1 fa, fltP (rdP st nm nu c).1 x op fp, (rdP st nm nu c).2.1, (rdP st nm nu c).2.2.1, (rdP st nm nu c).2.2.2)) (fun u : Nat × Int32 × Nat × Nat × Nat => [(dA, .inr (0, [.ref hA, .int (nI n), .ref eA, .ref rA, .int (nI u.1), .int u.2.1, .int (nI op), .ref oA, .int (nI ol), .ref pA, .int (nI ml), .int (nI me), .int pu, .int (nI de)])), (rA, .inr (2, [.int (nI u.2.2.1), .int (nI u.2.2.2.1), .int (nI u.2.2.2.2)]))]) := by
  refine Mi.intro (by decide) (Nat.le_of_ble_eq_true rfl) ?_
  intro p e s m args below meth cd A ls R Q hR hQ C Z hl
  have hl : lv_has ls 4 [(0, .ref dA), (1, .int (nI c)), (2, .int (nI x))] := hl
  refine lv_aload_n C.1 C.2.1 d_Desk_readOn_0 rfl (lv_at hl 0 rfl) ?_
  refine r_get C Z 0 f_Desk_27 rfl rfl d_Desk_readOn_1 ?_
  refine lv_iload_n C.1 C.2.1 d_Desk_readOn_4 rfl (lv_at hl 1 rfl) ?_
  refine r_callNi (rest := []) (wr := [(dA, .inr (0, [.ref hA, .int (nI n), .ref eA, .ref rA, .int (nI fa), .int fp, .int (nI op), .ref oA, .int (nI ol), .ref pA, .int (nI ml), .int (nI me), .int pu, .int (nI de)]))]) (wn := fun u => [(dA, .inr (0, [.ref hA, .int (nI n), .ref eA, .ref rA, .int (nI fa), .int fp, .int (nI op), .ref oA, .int (nI ol), .ref pA, .int (nI ml), .int (nI me), .int pu, .int (nI de)])), (rA, .inr (2, [.int (nI u.1), .int (nI u.2.1), .int (nI u.2.2)]))]) C Z (c_Reader_read l D cI cZ rA st nm nu c (by first | assumption | omega) (by first | assumption | omega) (by first | assumption | omega)) k_Desk_105 rfl ⟨by rw [hR]; decide, by rw [hR]; decide⟩ ⟨rfl, rfl⟩ [1] [0] [0, 1] (by decide) rfl rfl (by decide) (by decide) (by decide) (fun _ => rfl) 1 rfl rfl hl.1 rfl (Nat.le_of_ble_eq_true rfl) d_Desk_readOn_5 ⟨Nat.zero_le _, Nat.zero_le _⟩ (fun r u H locs hp Z => ?_)
  obtain ⟨hp1, hp2⟩ := hp; have hp1 := hp1.symm; have hp2 := hp2.symm; subst hp1; subst hp2
  have Z : Wd D A s.heap [(dA, .inr (0, [.ref hA, .int (nI n), .ref eA, .ref rA, .int (nI fa), .int fp, .int (nI op), .ref oA, .int (nI ol), .ref pA, .int (nI ml), .int (nI me), .int pu, .int (nI de)])), (rA, .inr (2, [.int (nI ((rdP st nm nu c).2.1)), .int (nI ((rdP st nm nu c).2.2.1)), .int (nI ((rdP st nm nu c).2.2.2))]))] H locs := Z
  have hw := (rdP_ok (c := c) hst hnm hnu).1
  refine lv_istore_n (lv' := [(3, .int (nI ((rdP st nm nu c).1))), (0, .ref dA), (1, .int (nI c)), (2, .int (nI x))]) C.1 C.2.1 d_Desk_readOn_8 rfl hl (by decide) rfl (fun ls hl => ?_)
  refine lv_iload_n C.1 C.2.1 d_Desk_readOn_9 rfl (lv_at hl 0 rfl) ?_
  refine lv_iconst (v := nI 5) C.1 C.2.1 d_Desk_readOn_10 (by decide) ?_
  refine r_ne (tgt := 23) C d_Desk_readOn_11 (by decide) (by omega) (by omega) (fun h11 => ?_) (fun h11 => ?_)
  · skip
    refine lv_iload_n C.1 C.2.1 d_Desk_readOn_23 rfl (lv_at hl 0 rfl) ?_
    refine lv_iconst (v := nI 4) C.1 C.2.1 d_Desk_readOn_24 (by decide) ?_
    refine r_ne (tgt := 38) C d_Desk_readOn_25 (by decide) (by omega) (by omega) (fun h25 => ?_) (fun h25 => ?_)
    · skip
      refine lv_iload_n C.1 C.2.1 d_Desk_readOn_38 rfl (lv_at hl 0 rfl) ?_
      exact r_iret C Z (fa, fp, (rdP st nm nu c).2.1, (rdP st nm nu c).2.2.1, (rdP st nm nu c).2.2.2) (by clear C Z hl; simp [fltK, fltP, h11, h25]) rfl hQ d_Desk_readOn_39
    · skip
      refine lv_aload_n C.1 C.2.1 d_Desk_readOn_28 rfl (lv_at hl 1 rfl) ?_
      refine lv_bipush (v := nI 8) C.1 C.2.1 d_Desk_readOn_29 (by decide) ?_
      refine lv_aload_n C.1 C.2.1 d_Desk_readOn_31 rfl (lv_at hl 1 rfl) ?_
      refine r_get C Z 0 f_Desk_37 rfl rfl d_Desk_readOn_32 ?_
      refine r_callVv (rest := []) (wr := [(rA, .inr (2, [.int (nI ((rdP st nm nu c).2.1)), .int (nI ((rdP st nm nu c).2.2.1)), .int (nI ((rdP st nm nu c).2.2.2))]))]) (wn := fun u => [(dA, .inr (0, [.ref hA, .int (nI n), .ref eA, .ref rA, .int (nI u.1), .int u.2, .int (nI op), .ref oA, .int (nI ol), .ref pA, .int (nI ml), .int (nI me), .int pu, .int (nI de)])), (rA, .inr (2, [.int (nI ((rdP st nm nu c).2.1)), .int (nI ((rdP st nm nu c).2.2.1)), .int (nI ((rdP st nm nu c).2.2.2))]))]) C Z (c_Desk_fail l D cI cZ dA hA eA rA oA pA n fa fp op ol ml me pu de 8 (nI op)) k_Desk_108 rfl ⟨by rw [hR]; decide, by rw [hR]; decide⟩ ⟨rfl, rfl⟩ [0] [1] [1, 0] (by decide) rfl rfl (by decide) (by decide) (by decide) (fun _ => rfl) 0 rfl rfl hl.1 rfl (Nat.le_of_ble_eq_true rfl) d_Desk_readOn_35 ⟨Nat.zero_le _, Nat.zero_le _⟩ (fun u H locs hp Z => ?_)
      have hp := hp.symm; subst hp
      have Z : Wd D A s.heap [(dA, .inr (0, [.ref hA, .int (nI n), .ref eA, .ref rA, .int (nI 8), .int (nI op), .int (nI op), .ref oA, .int (nI ol), .ref pA, .int (nI ml), .int (nI me), .int pu, .int (nI de)])), (rA, .inr (2, [.int (nI ((rdP st nm nu c).2.1)), .int (nI ((rdP st nm nu c).2.2.1)), .int (nI ((rdP st nm nu c).2.2.2))]))] H locs := Z
      refine lv_iload_n C.1 C.2.1 d_Desk_readOn_38 rfl (lv_at hl 0 rfl) ?_
      exact r_iret C Z (8, nI op, (rdP st nm nu c).2.1, (rdP st nm nu c).2.2.1, (rdP st nm nu c).2.2.2) (by clear C Z hl; simp [fltK, fltP, h11, h25]) rfl hQ d_Desk_readOn_39
  · skip
    refine lv_aload_n C.1 C.2.1 d_Desk_readOn_14 rfl (lv_at hl 1 rfl) ?_
    refine lv_iconst (v := nI 2) C.1 C.2.1 d_Desk_readOn_15 (by decide) ?_
    refine lv_iload_n C.1 C.2.1 d_Desk_readOn_16 rfl (lv_at hl 3 rfl) ?_
    refine r_callVv (rest := []) (wr := [(rA, .inr (2, [.int (nI ((rdP st nm nu c).2.1)), .int (nI ((rdP st nm nu c).2.2.1)), .int (nI ((rdP st nm nu c).2.2.2))]))]) (wn := fun u => [(dA, .inr (0, [.ref hA, .int (nI n), .ref eA, .ref rA, .int (nI u.1), .int u.2, .int (nI op), .ref oA, .int (nI ol), .ref pA, .int (nI ml), .int (nI me), .int pu, .int (nI de)])), (rA, .inr (2, [.int (nI ((rdP st nm nu c).2.1)), .int (nI ((rdP st nm nu c).2.2.1)), .int (nI ((rdP st nm nu c).2.2.2))]))]) C Z (c_Desk_fail l D cI cZ dA hA eA rA oA pA n fa fp op ol ml me pu de 2 (nI x)) k_Desk_108 rfl ⟨by rw [hR]; decide, by rw [hR]; decide⟩ ⟨rfl, rfl⟩ [0] [1] [1, 0] (by decide) rfl rfl (by decide) (by decide) (by decide) (fun _ => rfl) 0 rfl rfl hl.1 rfl (Nat.le_of_ble_eq_true rfl) d_Desk_readOn_17 ⟨Nat.zero_le _, Nat.zero_le _⟩ (fun u H locs hp Z => ?_)
    have hp := hp.symm; subst hp
    have Z : Wd D A s.heap [(dA, .inr (0, [.ref hA, .int (nI n), .ref eA, .ref rA, .int (nI 2), .int (nI x), .int (nI op), .ref oA, .int (nI ol), .ref pA, .int (nI ml), .int (nI me), .int pu, .int (nI de)])), (rA, .inr (2, [.int (nI ((rdP st nm nu c).2.1)), .int (nI ((rdP st nm nu c).2.2.1)), .int (nI ((rdP st nm nu c).2.2.2))]))] H locs := Z
    refine lv_goto (tgt := 38) C.1 C.2.1 d_Desk_readOn_20 (by decide) ?_
    refine lv_iload_n C.1 C.2.1 d_Desk_readOn_38 rfl (lv_at hl 0 rfl) ?_
    exact r_iret C Z (2, nI x, (rdP st nm nu c).2.1, (rdP st nm nu c).2.2.1, (rdP st nm nu c).2.2.2) (by clear C Z hl; simp [fltK, fltP, h11]) rfl hQ d_Desk_readOn_39

set_option maxHeartbeats 4000000 in
set_option maxRecDepth 100000 in
theorem c_Desk_draftCharacter (l : Launch) (D : va_G) (cI cZ : ClassId) (dA hA eA rA oA pA wA sA lA : Nat) (n : Nat) (fa : Nat) (fp : Int32) (op : Nat) (ol : Nat) (ml : Nat) (me : Nat) (pu : Int32) (de : Nat) (st : Nat) (nm : Nat) (nu : Nat) (dl : Int32) (kept : Nat) (dr : Nat) (tx : Nat → Nat) (c : Nat) (x : Nat) (hst : st ≤ 6) (hnm : nm < 26) (hnu : nu ≤ 256) (hc : c < 256) (hkept : kept ≤ 2000) (hdr : dr ≤ 90000) : Mv l y_Desk_draftCharacter b_Desk_draftCharacter 4 ({ frames := 4, cells := 0, slots := 0, locals := 89 } : Room) D cI cZ [.ref dA, .int (nI c), .int (nI x)] [(dA, .inr (0, [.ref hA, .int (nI n), .ref eA, .ref rA, .int (nI fa), .int fp, .int (nI op), .ref oA, .int (nI ol), .ref pA, .int (nI ml), .int (nI me), .int pu, .int (nI de)])), (eA, .inr (1, [.ref wA, .ref sA, .ref lA, .int dl, .int (nI kept), .int (nI dr)])), (wA, .inl (cI, 2000, .inl (aN tx))), (rA, .inr (2, [.int (nI st), .int (nI nm), .int (nI nu)]))] (fun u : Nat × Int32 × (Nat → Nat) × Nat × Nat × Nat × Nat => u = (fltK (rdP st nm nu c).1 fa, fltP (rdP st nm nu c).1 x op fp, dcX (rdP st nm nu c).1 c (rdP st nm nu c).2.2.1 (rdP st nm nu c).2.2.2 kept dr tx, dcN (rdP st nm nu c).1 dr, (rdP st nm nu c).2.1, (rdP st nm nu c).2.2.1, (rdP st nm nu c).2.2.2)) (fun u : Nat × Int32 × (Nat → Nat) × Nat × Nat × Nat × Nat => [(dA, .inr (0, [.ref hA, .int (nI n), .ref eA, .ref rA, .int (nI u.1), .int u.2.1, .int (nI op), .ref oA, .int (nI ol), .ref pA, .int (nI ml), .int (nI me), .int pu, .int (nI de)])), (eA, .inr (1, [.ref wA, .ref sA, .ref lA, .int dl, .int (nI kept), .int (nI u.2.2.2.1)])), (wA, .inl (cI, 2000, .inl (aN u.2.2.1))), (rA, .inr (2, [.int (nI u.2.2.2.2.1), .int (nI u.2.2.2.2.2.1), .int (nI u.2.2.2.2.2.2)]))]) 0 0 := by
  refine Mv.intro (by decide) (Nat.le_of_ble_eq_true rfl) ?_
  intro p e s m args below meth cd A ls R Q hR hQ C hin Z hl
  have hl : lv_has ls 4 [(0, .ref dA), (1, .int (nI c)), (2, .int (nI x))] := hl
  refine lv_aload_n C.1 C.2.1 d_Desk_draftCharacter_0 rfl (lv_at hl 0 rfl) ?_
  refine lv_iload_n C.1 C.2.1 d_Desk_draftCharacter_1 rfl (lv_at hl 1 rfl) ?_
  refine lv_iload_n C.1 C.2.1 d_Desk_draftCharacter_2 rfl (lv_at hl 2 rfl) ?_
  refine r_callVi (rest := []) (wr := [(eA, .inr (1, [.ref wA, .ref sA, .ref lA, .int dl, .int (nI kept), .int (nI dr)])), (wA, .inl (cI, 2000, .inl (aN tx)))]) (wn := fun u => [(dA, .inr (0, [.ref hA, .int (nI n), .ref eA, .ref rA, .int (nI u.1), .int u.2.1, .int (nI op), .ref oA, .int (nI ol), .ref pA, .int (nI ml), .int (nI me), .int pu, .int (nI de)])), (eA, .inr (1, [.ref wA, .ref sA, .ref lA, .int dl, .int (nI kept), .int (nI dr)])), (wA, .inl (cI, 2000, .inl (aN tx))), (rA, .inr (2, [.int (nI u.2.2.1), .int (nI u.2.2.2.1), .int (nI u.2.2.2.2)]))]) C Z (c_Desk_readOn l D cI cZ dA hA eA rA oA pA n fa fp op ol ml me pu de st nm nu c x (by first | assumption | omega) (by first | assumption | omega) (by first | assumption | omega) (by first | assumption | omega)) k_Desk_121 rfl ⟨by rw [hR]; decide, by rw [hR]; decide⟩ ⟨rfl, rfl⟩ [0, 3] [1, 2] [2, 0, 1, 3] (by decide) rfl rfl (by decide) (by decide) (by decide) (fun _ => rfl) 0 rfl rfl hl.1 rfl (Nat.le_of_ble_eq_true rfl) d_Desk_draftCharacter_3 ⟨Nat.zero_le _, Nat.zero_le _⟩ (fun r u H locs hp Z => ?_)
  obtain ⟨hp1, hp2⟩ := hp; have hp1 := hp1.symm; have hp2 := hp2.symm; subst hp1; subst hp2
  have Z : Wd D A s.heap [(dA, .inr (0, [.ref hA, .int (nI n), .ref eA, .ref rA, .int (nI (fltK (rdP st nm nu c).1 fa)), .int (fltP (rdP st nm nu c).1 x op fp), .int (nI op), .ref oA, .int (nI ol), .ref pA, .int (nI ml), .int (nI me), .int pu, .int (nI de)])), (eA, .inr (1, [.ref wA, .ref sA, .ref lA, .int dl, .int (nI kept), .int (nI dr)])), (wA, .inl (cI, 2000, .inl (aN tx))), (rA, .inr (2, [.int (nI ((rdP st nm nu c).2.1)), .int (nI ((rdP st nm nu c).2.2.1)), .int (nI ((rdP st nm nu c).2.2.2))]))] H locs := Z
  have hw := (rdP_ok (c := c) hst hnm hnu).1
  refine lv_istore_n (lv' := [(3, .int (nI ((rdP st nm nu c).1))), (0, .ref dA), (1, .int (nI c)), (2, .int (nI x))]) C.1 C.2.1 d_Desk_draftCharacter_6 rfl hl (by decide) rfl (fun ls hl => ?_)
  refine lv_iload_n C.1 C.2.1 d_Desk_draftCharacter_7 rfl (lv_at hl 0 rfl) ?_
  refine r_zne (tgt := 22) C d_Desk_draftCharacter_8 (by decide) (by omega) (fun h8 => ?_) (fun h8 => ?_)
  · skip
    refine lv_iload_n C.1 C.2.1 d_Desk_draftCharacter_22 rfl (lv_at hl 0 rfl) ?_
    refine lv_iconst (v := nI 2) C.1 C.2.1 d_Desk_draftCharacter_23 (by decide) ?_
    refine r_ne (tgt := 44) C d_Desk_draftCharacter_24 (by decide) (by omega) (by omega) (fun h24 => ?_) (fun h24 => ?_)
    · skip
      refine lv_iload_n C.1 C.2.1 d_Desk_draftCharacter_44 rfl (lv_at hl 0 rfl) ?_
      refine lv_iconst (v := nI 3) C.1 C.2.1 d_Desk_draftCharacter_45 (by decide) ?_
      refine r_ne (tgt := 84) C d_Desk_draftCharacter_46 (by decide) (by omega) (by omega) (fun h46 => ?_) (fun h46 => ?_)
      · skip
        exact r_vret C Z (fltK (rdP st nm nu c).1 fa, fltP (rdP st nm nu c).1 x op fp, tx, dr, (rdP st nm nu c).2.1, (rdP st nm nu c).2.2.1, (rdP st nm nu c).2.2.2) (by clear C Z hl; simp [dcX, dcN, h8, h24, h46]) rfl hQ d_Desk_draftCharacter_84
      · skip
        refine lv_aload_n C.1 C.2.1 d_Desk_draftCharacter_49 rfl (lv_at hl 1 rfl) ?_
        refine r_get C Z 0 f_Desk_20 rfl rfl d_Desk_draftCharacter_50 ?_
        refine lv_bipush (v := nI 38) C.1 C.2.1 d_Desk_draftCharacter_53 (by decide) ?_
        refine r_callNv (rest := []) (wr := [(dA, .inr (0, [.ref hA, .int (nI n), .ref eA, .ref rA, .int (nI (fltK (rdP st nm nu c).1 fa)), .int (fltP (rdP st nm nu c).1 x op fp), .int (nI op), .ref oA, .int (nI ol), .ref pA, .int (nI ml), .int (nI me), .int pu, .int (nI de)])), (rA, .inr (2, [.int (nI ((rdP st nm nu c).2.1)), .int (nI ((rdP st nm nu c).2.2.1)), .int (nI ((rdP st nm nu c).2.2.2))]))]) (wn := fun u => [(dA, .inr (0, [.ref hA, .int (nI n), .ref eA, .ref rA, .int (nI (fltK (rdP st nm nu c).1 fa)), .int (fltP (rdP st nm nu c).1 x op fp), .int (nI op), .ref oA, .int (nI ol), .ref pA, .int (nI ml), .int (nI me), .int pu, .int (nI de)])), (eA, .inr (1, [.ref wA, .ref sA, .ref lA, .int dl, .int (nI kept), .int (nI u.2)])), (wA, .inl (cI, 2000, .inl (aN u.1))), (rA, .inr (2, [.int (nI ((rdP st nm nu c).2.1)), .int (nI ((rdP st nm nu c).2.2.1)), .int (nI ((rdP st nm nu c).2.2.2))]))]) C Z (c_Ents_draft l D cI cZ eA wA sA lA dl kept dr tx 38 (by first | assumption | omega) (by first | assumption | omega)) k_Desk_124 rfl ⟨by rw [hR]; decide, by rw [hR]; decide⟩ ⟨rfl, rfl⟩ [1, 2] [0, 3] [0, 2, 3, 1] (by decide) rfl rfl (by decide) (by decide) (by decide) (fun _ => rfl) 1 rfl rfl hl.1 rfl (Nat.le_of_ble_eq_true rfl) d_Desk_draftCharacter_55 ⟨Nat.zero_le _, Nat.zero_le _⟩ (fun u H locs hp Z => ?_)
        have hp := hp.symm; subst hp
        have Z : Wd D A s.heap [(dA, .inr (0, [.ref hA, .int (nI n), .ref eA, .ref rA, .int (nI (fltK (rdP st nm nu c).1 fa)), .int (fltP (rdP st nm nu c).1 x op fp), .int (nI op), .ref oA, .int (nI ol), .ref pA, .int (nI ml), .int (nI me), .int pu, .int (nI de)])), (eA, .inr (1, [.ref wA, .ref sA, .ref lA, .int dl, .int (nI kept), .int (nI (dr + 1))])), (wA, .inl (cI, 2000, .inl (aN (drX kept dr 38 tx)))), (rA, .inr (2, [.int (nI ((rdP st nm nu c).2.1)), .int (nI ((rdP st nm nu c).2.2.1)), .int (nI ((rdP st nm nu c).2.2.2))]))] H locs := Z
        refine lv_aload_n C.1 C.2.1 d_Desk_draftCharacter_58 rfl (lv_at hl 1 rfl) ?_
        refine r_get C Z 0 f_Desk_20 rfl rfl d_Desk_draftCharacter_59 ?_
        refine lv_bipush (v := nI 97) C.1 C.2.1 d_Desk_draftCharacter_62 (by decide) ?_
        refine lv_aload_n C.1 C.2.1 d_Desk_draftCharacter_64 rfl (lv_at hl 1 rfl) ?_
        refine r_get C Z 0 f_Desk_27 rfl rfl d_Desk_draftCharacter_65 ?_
        refine r_getN C Z 3 f_Desk_130 rfl rfl d_Desk_draftCharacter_68 ?_
        refine r_add C d_Desk_draftCharacter_71 ?_
        refine r_callNv (rest := []) (wr := [(dA, .inr (0, [.ref hA, .int (nI n), .ref eA, .ref rA, .int (nI (fltK (rdP st nm nu c).1 fa)), .int (fltP (rdP st nm nu c).1 x op fp), .int (nI op), .ref oA, .int (nI ol), .ref pA, .int (nI ml), .int (nI me), .int pu, .int (nI de)])), (rA, .inr (2, [.int (nI ((rdP st nm nu c).2.1)), .int (nI ((rdP st nm nu c).2.2.1)), .int (nI ((rdP st nm nu c).2.2.2))]))]) (wn := fun u => [(dA, .inr (0, [.ref hA, .int (nI n), .ref eA, .ref rA, .int (nI (fltK (rdP st nm nu c).1 fa)), .int (fltP (rdP st nm nu c).1 x op fp), .int (nI op), .ref oA, .int (nI ol), .ref pA, .int (nI ml), .int (nI me), .int pu, .int (nI de)])), (eA, .inr (1, [.ref wA, .ref sA, .ref lA, .int dl, .int (nI kept), .int (nI u.2)])), (wA, .inl (cI, 2000, .inl (aN u.1))), (rA, .inr (2, [.int (nI ((rdP st nm nu c).2.1)), .int (nI ((rdP st nm nu c).2.2.1)), .int (nI ((rdP st nm nu c).2.2.2))]))]) C Z (c_Ents_draft l D cI cZ eA wA sA lA dl kept (dr + 1) (drX kept dr 38 tx) (97 + ((rdP st nm nu c).2.2.1)) (by first | assumption | omega) (by first | assumption | omega)) k_Desk_124 rfl ⟨by rw [hR]; decide, by rw [hR]; decide⟩ ⟨rfl, rfl⟩ [1, 2] [0, 3] [0, 2, 3, 1] (by decide) rfl rfl (by decide) (by decide) (by decide) (fun _ => rfl) 1 rfl rfl hl.1 rfl (Nat.le_of_ble_eq_true rfl) d_Desk_draftCharacter_72 ⟨Nat.zero_le _, Nat.zero_le _⟩ (fun u H locs hp Z => ?_)
        have hp := hp.symm; subst hp
        have Z : Wd D A s.heap [(dA, .inr (0, [.ref hA, .int (nI n), .ref eA, .ref rA, .int (nI (fltK (rdP st nm nu c).1 fa)), .int (fltP (rdP st nm nu c).1 x op fp), .int (nI op), .ref oA, .int (nI ol), .ref pA, .int (nI ml), .int (nI me), .int pu, .int (nI de)])), (eA, .inr (1, [.ref wA, .ref sA, .ref lA, .int dl, .int (nI kept), .int (nI ((dr + 1) + 1))])), (wA, .inl (cI, 2000, .inl (aN (drX kept (dr + 1) (97 + ((rdP st nm nu c).2.2.1)) (drX kept dr 38 tx))))), (rA, .inr (2, [.int (nI ((rdP st nm nu c).2.1)), .int (nI ((rdP st nm nu c).2.2.1)), .int (nI ((rdP st nm nu c).2.2.2))]))] H locs := Z
        refine lv_aload_n C.1 C.2.1 d_Desk_draftCharacter_75 rfl (lv_at hl 1 rfl) ?_
        refine r_get C Z 0 f_Desk_20 rfl rfl d_Desk_draftCharacter_76 ?_
        refine lv_bipush (v := nI 59) C.1 C.2.1 d_Desk_draftCharacter_79 (by decide) ?_
        refine r_callNv (rest := []) (wr := [(dA, .inr (0, [.ref hA, .int (nI n), .ref eA, .ref rA, .int (nI (fltK (rdP st nm nu c).1 fa)), .int (fltP (rdP st nm nu c).1 x op fp), .int (nI op), .ref oA, .int (nI ol), .ref pA, .int (nI ml), .int (nI me), .int pu, .int (nI de)])), (rA, .inr (2, [.int (nI ((rdP st nm nu c).2.1)), .int (nI ((rdP st nm nu c).2.2.1)), .int (nI ((rdP st nm nu c).2.2.2))]))]) (wn := fun u => [(dA, .inr (0, [.ref hA, .int (nI n), .ref eA, .ref rA, .int (nI (fltK (rdP st nm nu c).1 fa)), .int (fltP (rdP st nm nu c).1 x op fp), .int (nI op), .ref oA, .int (nI ol), .ref pA, .int (nI ml), .int (nI me), .int pu, .int (nI de)])), (eA, .inr (1, [.ref wA, .ref sA, .ref lA, .int dl, .int (nI kept), .int (nI u.2)])), (wA, .inl (cI, 2000, .inl (aN u.1))), (rA, .inr (2, [.int (nI ((rdP st nm nu c).2.1)), .int (nI ((rdP st nm nu c).2.2.1)), .int (nI ((rdP st nm nu c).2.2.2))]))]) C Z (c_Ents_draft l D cI cZ eA wA sA lA dl kept ((dr + 1) + 1) (drX kept (dr + 1) (97 + ((rdP st nm nu c).2.2.1)) (drX kept dr 38 tx)) 59 (by first | assumption | omega) (by first | assumption | omega)) k_Desk_124 rfl ⟨by rw [hR]; decide, by rw [hR]; decide⟩ ⟨rfl, rfl⟩ [1, 2] [0, 3] [0, 2, 3, 1] (by decide) rfl rfl (by decide) (by decide) (by decide) (fun _ => rfl) 1 rfl rfl hl.1 rfl (Nat.le_of_ble_eq_true rfl) d_Desk_draftCharacter_81 ⟨Nat.zero_le _, Nat.zero_le _⟩ (fun u H locs hp Z => ?_)
        have hp := hp.symm; subst hp
        have Z : Wd D A s.heap [(dA, .inr (0, [.ref hA, .int (nI n), .ref eA, .ref rA, .int (nI (fltK (rdP st nm nu c).1 fa)), .int (fltP (rdP st nm nu c).1 x op fp), .int (nI op), .ref oA, .int (nI ol), .ref pA, .int (nI ml), .int (nI me), .int pu, .int (nI de)])), (eA, .inr (1, [.ref wA, .ref sA, .ref lA, .int dl, .int (nI kept), .int (nI (((dr + 1) + 1) + 1))])), (wA, .inl (cI, 2000, .inl (aN (drX kept ((dr + 1) + 1) 59 (drX kept (dr + 1) (97 + ((rdP st nm nu c).2.2.1)) (drX kept dr 38 tx)))))), (rA, .inr (2, [.int (nI ((rdP st nm nu c).2.1)), .int (nI ((rdP st nm nu c).2.2.1)), .int (nI ((rdP st nm nu c).2.2.2))]))] H locs := Z
        exact r_vret C Z (fltK (rdP st nm nu c).1 fa, fltP (rdP st nm nu c).1 x op fp, drX kept ((dr + 1) + 1) 59 (drX kept (dr + 1) (97 + ((rdP st nm nu c).2.2.1)) (drX kept dr 38 tx)), ((dr + 1) + 1) + 1, (rdP st nm nu c).2.1, (rdP st nm nu c).2.2.1, (rdP st nm nu c).2.2.2) (by clear C Z hl; simp [dcX, dcN, h8, h24, h46]) rfl hQ d_Desk_draftCharacter_84
    · skip
      refine lv_aload_n C.1 C.2.1 d_Desk_draftCharacter_27 rfl (lv_at hl 1 rfl) ?_
      refine r_get C Z 0 f_Desk_20 rfl rfl d_Desk_draftCharacter_28 ?_
      refine lv_aload_n C.1 C.2.1 d_Desk_draftCharacter_31 rfl (lv_at hl 1 rfl) ?_
      refine r_get C Z 0 f_Desk_27 rfl rfl d_Desk_draftCharacter_32 ?_
      refine r_getN C Z 3 f_Desk_127 rfl rfl d_Desk_draftCharacter_35 ?_
      refine r_callNv (rest := []) (wr := [(dA, .inr (0, [.ref hA, .int (nI n), .ref eA, .ref rA, .int (nI (fltK (rdP st nm nu c).1 fa)), .int (fltP (rdP st nm nu c).1 x op fp), .int (nI op), .ref oA, .int (nI ol), .ref pA, .int (nI ml), .int (nI me), .int pu, .int (nI de)])), (rA, .inr (2, [.int (nI ((rdP st nm nu c).2.1)), .int (nI ((rdP st nm nu c).2.2.1)), .int (nI ((rdP st nm nu c).2.2.2))]))]) (wn := fun u => [(dA, .inr (0, [.ref hA, .int (nI n), .ref eA, .ref rA, .int (nI (fltK (rdP st nm nu c).1 fa)), .int (fltP (rdP st nm nu c).1 x op fp), .int (nI op), .ref oA, .int (nI ol), .ref pA, .int (nI ml), .int (nI me), .int pu, .int (nI de)])), (eA, .inr (1, [.ref wA, .ref sA, .ref lA, .int dl, .int (nI kept), .int (nI u.2)])), (wA, .inl (cI, 2000, .inl (aN u.1))), (rA, .inr (2, [.int (nI ((rdP st nm nu c).2.1)), .int (nI ((rdP st nm nu c).2.2.1)), .int (nI ((rdP st nm nu c).2.2.2))]))]) C Z (c_Ents_draft l D cI cZ eA wA sA lA dl kept dr tx ((rdP st nm nu c).2.2.2) (by first | assumption | omega) (by first | assumption | omega)) k_Desk_124 rfl ⟨by rw [hR]; decide, by rw [hR]; decide⟩ ⟨rfl, rfl⟩ [1, 2] [0, 3] [0, 2, 3, 1] (by decide) rfl rfl (by decide) (by decide) (by decide) (fun _ => rfl) 1 rfl rfl hl.1 rfl (Nat.le_of_ble_eq_true rfl) d_Desk_draftCharacter_38 ⟨Nat.zero_le _, Nat.zero_le _⟩ (fun u H locs hp Z => ?_)
      have hp := hp.symm; subst hp
      have Z : Wd D A s.heap [(dA, .inr (0, [.ref hA, .int (nI n), .ref eA, .ref rA, .int (nI (fltK (rdP st nm nu c).1 fa)), .int (fltP (rdP st nm nu c).1 x op fp), .int (nI op), .ref oA, .int (nI ol), .ref pA, .int (nI ml), .int (nI me), .int pu, .int (nI de)])), (eA, .inr (1, [.ref wA, .ref sA, .ref lA, .int dl, .int (nI kept), .int (nI (dr + 1))])), (wA, .inl (cI, 2000, .inl (aN (drX kept dr ((rdP st nm nu c).2.2.2) tx)))), (rA, .inr (2, [.int (nI ((rdP st nm nu c).2.1)), .int (nI ((rdP st nm nu c).2.2.1)), .int (nI ((rdP st nm nu c).2.2.2))]))] H locs := Z
      refine lv_goto (tgt := 84) C.1 C.2.1 d_Desk_draftCharacter_41 (by decide) ?_
      exact r_vret C Z (fltK (rdP st nm nu c).1 fa, fltP (rdP st nm nu c).1 x op fp, drX kept dr ((rdP st nm nu c).2.2.2) tx, dr + 1, (rdP st nm nu c).2.1, (rdP st nm nu c).2.2.1, (rdP st nm nu c).2.2.2) (by clear C Z hl; simp [dcX, dcN, h8, h24]) rfl hQ d_Desk_draftCharacter_84
  · skip
    refine lv_aload_n C.1 C.2.1 d_Desk_draftCharacter_11 rfl (lv_at hl 1 rfl) ?_
    refine r_get C Z 0 f_Desk_20 rfl rfl d_Desk_draftCharacter_12 ?_
    refine lv_iload_n C.1 C.2.1 d_Desk_draftCharacter_15 rfl (lv_at hl 2 rfl) ?_
    refine r_callNv (rest := []) (wr := [(dA, .inr (0, [.ref hA, .int (nI n), .ref eA, .ref rA, .int (nI (fltK (rdP st nm nu c).1 fa)), .int (fltP (rdP st nm nu c).1 x op fp), .int (nI op), .ref oA, .int (nI ol), .ref pA, .int (nI ml), .int (nI me), .int pu, .int (nI de)])), (rA, .inr (2, [.int (nI ((rdP st nm nu c).2.1)), .int (nI ((rdP st nm nu c).2.2.1)), .int (nI ((rdP st nm nu c).2.2.2))]))]) (wn := fun u => [(dA, .inr (0, [.ref hA, .int (nI n), .ref eA, .ref rA, .int (nI (fltK (rdP st nm nu c).1 fa)), .int (fltP (rdP st nm nu c).1 x op fp), .int (nI op), .ref oA, .int (nI ol), .ref pA, .int (nI ml), .int (nI me), .int pu, .int (nI de)])), (eA, .inr (1, [.ref wA, .ref sA, .ref lA, .int dl, .int (nI kept), .int (nI u.2)])), (wA, .inl (cI, 2000, .inl (aN u.1))), (rA, .inr (2, [.int (nI ((rdP st nm nu c).2.1)), .int (nI ((rdP st nm nu c).2.2.1)), .int (nI ((rdP st nm nu c).2.2.2))]))]) C Z (c_Ents_draft l D cI cZ eA wA sA lA dl kept dr tx c (by first | assumption | omega) (by first | assumption | omega)) k_Desk_124 rfl ⟨by rw [hR]; decide, by rw [hR]; decide⟩ ⟨rfl, rfl⟩ [1, 2] [0, 3] [0, 2, 3, 1] (by decide) rfl rfl (by decide) (by decide) (by decide) (fun _ => rfl) 1 rfl rfl hl.1 rfl (Nat.le_of_ble_eq_true rfl) d_Desk_draftCharacter_16 ⟨Nat.zero_le _, Nat.zero_le _⟩ (fun u H locs hp Z => ?_)
    have hp := hp.symm; subst hp
    have Z : Wd D A s.heap [(dA, .inr (0, [.ref hA, .int (nI n), .ref eA, .ref rA, .int (nI (fltK (rdP st nm nu c).1 fa)), .int (fltP (rdP st nm nu c).1 x op fp), .int (nI op), .ref oA, .int (nI ol), .ref pA, .int (nI ml), .int (nI me), .int pu, .int (nI de)])), (eA, .inr (1, [.ref wA, .ref sA, .ref lA, .int dl, .int (nI kept), .int (nI (dr + 1))])), (wA, .inl (cI, 2000, .inl (aN (drX kept dr c tx)))), (rA, .inr (2, [.int (nI ((rdP st nm nu c).2.1)), .int (nI ((rdP st nm nu c).2.2.1)), .int (nI ((rdP st nm nu c).2.2.2))]))] H locs := Z
    refine lv_goto (tgt := 84) C.1 C.2.1 d_Desk_draftCharacter_19 (by decide) ?_
    exact r_vret C Z (fltK (rdP st nm nu c).1 fa, fltP (rdP st nm nu c).1 x op fp, drX kept dr c tx, dr + 1, (rdP st nm nu c).2.1, (rdP st nm nu c).2.2.1, (rdP st nm nu c).2.2.2) (by clear C Z hl; simp [dcX, dcN, h8]) rfl hQ d_Desk_draftCharacter_84

set_option maxHeartbeats 4000000 in
set_option maxRecDepth 100000 in
theorem c_Desk_give (l : Launch) (D : va_G) (cI cZ : ClassId) (dA hA eA rA oA pA : Nat) (n : Nat) (fa : Nat) (fp : Int32) (op : Nat) (ol : Nat) (ml : Nat) (me : Nat) (pu : Int32) (de : Nat) (out : Nat → Nat) (c : Nat) (hol : ol ≤ 3000) : Mv l y_Desk_give b_Desk_give 2 ({ frames := 1, cells := 0, slots := 0, locals := 22 } : Room) D cI cZ [.ref dA, .int (nI c)] [(dA, .inr (0, [.ref hA, .int (nI n), .ref eA, .ref rA, .int (nI fa), .int fp, .int (nI op), .ref oA, .int (nI ol), .ref pA, .int (nI ml), .int (nI me), .int pu, .int (nI de)])), (oA, .inl (cI, 3000, .inl (aN out)))] (fun u : Nat × Int32 × Nat × (Nat → Nat) => u = (gvK ol fa, gvP ol op fp, gvN ol, gvO ol c out)) (fun u : Nat × Int32 × Nat × (Nat → Nat) => [(dA, .inr (0, [.ref hA, .int (nI n), .ref eA, .ref rA, .int (nI u.1), .int u.2.1, .int (nI op), .ref oA, .int (nI u.2.2.1), .ref pA, .int (nI ml), .int (nI me), .int pu, .int (nI de)])), (oA, .inl (cI, 3000, .inl (aN u.2.2.2)))]) 0 0 := by
  refine Mv.intro (by decide) (Nat.le_of_ble_eq_true rfl) ?_
  intro p e s m args below meth cd A ls R Q hR hQ C hin Z hl
  have hl : lv_has ls 2 [(0, .ref dA), (1, .int (nI c))] := hl
  refine lv_aload_n C.1 C.2.1 d_Desk_give_0 rfl (lv_at hl 0 rfl) ?_
  refine r_get C Z 0 f_Desk_43 rfl rfl d_Desk_give_1 ?_
  refine lv_sipush (v := nI 3000) C.1 C.2.1 d_Desk_give_4 (by decide) ?_
  refine r_lt (tgt := 21) C d_Desk_give_7 (by decide) (by omega) (by omega) (fun h7 => ?_) (fun h7 => ?_)
  · skip
    refine lv_aload_n C.1 C.2.1 d_Desk_give_21 rfl (lv_at hl 0 rfl) ?_
    refine r_get C Z 0 f_Desk_40 rfl rfl d_Desk_give_22 ?_
    refine lv_aload_n C.1 C.2.1 d_Desk_give_25 rfl (lv_at hl 0 rfl) ?_
    refine r_get C Z 0 f_Desk_43 rfl rfl d_Desk_give_26 ?_
    refine lv_iload_n C.1 C.2.1 d_Desk_give_29 rfl (lv_at hl 1 rfl) ?_
    refine r_istN (ws' := [(dA, .inr (0, [.ref hA, .int (nI n), .ref eA, .ref rA, .int (nI fa), .int fp, .int (nI op), .ref oA, .int (nI ol), .ref pA, .int (nI ml), .int (nI me), .int pu, .int (nI de)])), (oA, .inl (cI, 3000, .inl (aN (updN out ol c))))]) C Z 1 rfl (by omega) (by decide) rfl d_Desk_give_30 (fun H locs Z => ?_)
    refine lv_aload_n C.1 C.2.1 d_Desk_give_31 rfl (lv_at hl 0 rfl) ?_
    refine lv_dup C.1 C.2.1 d_Desk_give_32 rfl ?_
    refine r_get C Z 0 f_Desk_43 rfl rfl d_Desk_give_33 ?_
    refine lv_iconst (v := nI 1) C.1 C.2.1 d_Desk_give_36 (by decide) ?_
    refine r_add C d_Desk_give_37 ?_
    refine r_put (ws' := [(dA, .inr (0, [.ref hA, .int (nI n), .ref eA, .ref rA, .int (nI fa), .int fp, .int (nI op), .ref oA, .int (nI (ol + 1)), .ref pA, .int (nI ml), .int (nI me), .int pu, .int (nI de)])), (oA, .inl (cI, 3000, .inl (aN (updN out ol c))))]) C Z 0 f_Desk_43 rfl rfl rfl (Nat.le_of_ble_eq_true rfl) rfl d_Desk_give_38 (fun H locs Z => ?_)
    exact r_vret C Z (fa, fp, ol + 1, updN out ol c) (by unfold gvK gvP gvN gvO; first | (rw [if_pos (by omega), if_pos (by omega), if_pos (by omega), if_pos (by omega)]) | (rw [if_neg (by omega), if_neg (by omega), if_neg (by omega), if_neg (by omega)])) rfl hQ d_Desk_give_41
  · skip
    refine lv_aload_n C.1 C.2.1 d_Desk_give_10 rfl (lv_at hl 0 rfl) ?_
    refine lv_bipush (v := nI 15) C.1 C.2.1 d_Desk_give_11 (by decide) ?_
    refine lv_aload_n C.1 C.2.1 d_Desk_give_13 rfl (lv_at hl 0 rfl) ?_
    refine r_get C Z 0 f_Desk_37 rfl rfl d_Desk_give_14 ?_
    refine r_callVv (rest := []) (wr := [(oA, .inl (cI, 3000, .inl (aN out)))]) (wn := fun u => [(dA, .inr (0, [.ref hA, .int (nI n), .ref eA, .ref rA, .int (nI u.1), .int u.2, .int (nI op), .ref oA, .int (nI ol), .ref pA, .int (nI ml), .int (nI me), .int pu, .int (nI de)])), (oA, .inl (cI, 3000, .inl (aN out)))]) C Z (c_Desk_fail l D cI cZ dA hA eA rA oA pA n fa fp op ol ml me pu de 15 (nI op)) k_Desk_108 rfl ⟨by rw [hR]; decide, by rw [hR]; decide⟩ ⟨rfl, rfl⟩ [0] [1] [1, 0] (by decide) rfl rfl (by decide) (by decide) (by decide) (fun _ => rfl) 0 rfl rfl hl.1 rfl (Nat.le_of_ble_eq_true rfl) d_Desk_give_17 ⟨Nat.zero_le _, Nat.zero_le _⟩ (fun u H locs hp Z => ?_)
    have hp := hp.symm; subst hp
    have Z : Wd D A s.heap [(dA, .inr (0, [.ref hA, .int (nI n), .ref eA, .ref rA, .int (nI 15), .int (nI op), .int (nI op), .ref oA, .int (nI ol), .ref pA, .int (nI ml), .int (nI me), .int pu, .int (nI de)])), (oA, .inl (cI, 3000, .inl (aN out)))] H locs := Z
    exact r_vret C Z (15, nI op, ol, out) (by unfold gvK gvP gvN gvO; first | (rw [if_pos (by omega), if_pos (by omega), if_pos (by omega), if_pos (by omega)]) | (rw [if_neg (by omega), if_neg (by omega), if_neg (by omega), if_neg (by omega)])) rfl hQ d_Desk_give_20

set_option maxHeartbeats 4000000 in
set_option maxRecDepth 100000 in
theorem c_Desk_faultOfEntity (l : Launch) (D : va_G) (cI cZ : ClassId) (dA hA eA rA oA pA wA sA lA : Nat) (n : Nat) (fa : Nat) (fp : Int32) (op : Nat) (ol : Nat) (ml : Nat) (me : Nat) (pu : Int32) (de : Nat) (dl : Int32) (kept : Nat) (dr : Nat) (ln : Nat → Nat) (opn : Nat → Nat) (k : Nat) (x : Nat) (hk : k < 26) (hln : ln k ≤ 2001) (hx : x ≤ 13) (hme : me ≤ 100000) (hml : ml ≤ 100000) (hop : opn k ≤ 1) : Mi l y_Desk_faultOfEntity b_Desk_faultOfEntity 3 (some .int) ({ frames := 1, cells := 0, slots := 0, locals := 21 } : Room) D cI cZ [.ref dA, .int (nI k), .int (nI x)] [(dA, .inr (0, [.ref hA, .int (nI n), .ref eA, .ref rA, .int (nI fa), .int fp, .int (nI op), .ref oA, .int (nI ol), .ref pA, .int (nI ml), .int (nI me), .int pu, .int (nI de)])), (eA, .inr (1, [.ref wA, .ref sA, .ref lA, .int dl, .int (nI kept), .int (nI dr)])), (lA, .inl (cI, 26, .inl (aM ln))), (pA, .inl (cZ, 26, .inl (aN opn)))] (fun (r : Int32) (u : Unit) => r = nI (fltE (ln k) (opn k) x me ml) ∧ u = ()) (fun u : Unit => [(dA, .inr (0, [.ref hA, .int (nI n), .ref eA, .ref rA, .int (nI fa), .int fp, .int (nI op), .ref oA, .int (nI ol), .ref pA, .int (nI ml), .int (nI me), .int pu, .int (nI de)])), (eA, .inr (1, [.ref wA, .ref sA, .ref lA, .int dl, .int (nI kept), .int (nI dr)])), (lA, .inl (cI, 26, .inl (aM ln))), (pA, .inl (cZ, 26, .inl (aN opn)))]) := by
  refine Mi.intro (by decide) (Nat.le_of_ble_eq_true rfl) ?_
  intro p e s m args below meth cd A ls R Q hR hQ C Z hl
  have hl : lv_has ls 3 [(0, .ref dA), (1, .int (nI k)), (2, .int (nI x))] := hl
  refine lv_aload_n C.1 C.2.1 d_Desk_faultOfEntity_0 rfl (lv_at hl 0 rfl) ?_
  refine r_get C Z 0 f_Desk_20 rfl rfl d_Desk_faultOfEntity_1 ?_
  refine lv_iload_n C.1 C.2.1 d_Desk_faultOfEntity_4 rfl (lv_at hl 1 rfl) ?_
  refine r_callNi (rest := []) (wr := [(dA, .inr (0, [.ref hA, .int (nI n), .ref eA, .ref rA, .int (nI fa), .int fp, .int (nI op), .ref oA, .int (nI ol), .ref pA, .int (nI ml), .int (nI me), .int pu, .int (nI de)])), (pA, .inl (cZ, 26, .inl (aN opn)))]) (wn := fun u => [(dA, .inr (0, [.ref hA, .int (nI n), .ref eA, .ref rA, .int (nI fa), .int fp, .int (nI op), .ref oA, .int (nI ol), .ref pA, .int (nI ml), .int (nI me), .int pu, .int (nI de)])), (eA, .inr (1, [.ref wA, .ref sA, .ref lA, .int dl, .int (nI kept), .int (nI dr)])), (lA, .inl (cI, 26, .inl (aM ln))), (pA, .inl (cZ, 26, .inl (aN opn)))]) C Z (c_Ents_has l D cI cZ eA wA sA lA dl kept dr ln k (by first | assumption | omega) (by first | assumption | omega)) k_Desk_69 rfl ⟨by rw [hR]; decide, by rw [hR]; decide⟩ ⟨rfl, rfl⟩ [1, 2] [0, 3] [0, 2, 3, 1] (by decide) rfl rfl (by decide) (by decide) (by decide) (fun _ => rfl) 1 rfl rfl hl.1 rfl (Nat.le_of_ble_eq_true rfl) d_Desk_faultOfEntity_5 ⟨Nat.zero_le _, Nat.zero_le _⟩ (fun r u H locs hp Z => ?_)
  obtain ⟨hp1, hp2⟩ := hp; have hp1 := hp1.symm; have hp2 := hp2.symm; subst hp1; subst hp2
  have Z : Wd D A s.heap [(dA, .inr (0, [.ref hA, .int (nI n), .ref eA, .ref rA, .int (nI fa), .int fp, .int (nI op), .ref oA, .int (nI ol), .ref pA, .int (nI ml), .int (nI me), .int pu, .int (nI de)])), (eA, .inr (1, [.ref wA, .ref sA, .ref lA, .int dl, .int (nI kept), .int (nI dr)])), (lA, .inl (cI, 26, .inl (aM ln))), (pA, .inl (cZ, 26, .inl (aN opn)))] H locs := Z
  refine r_zne (tgt := 13) C d_Desk_faultOfEntity_8 (by decide) (by omega) (fun h8 => ?_) (fun h8 => ?_)
  · skip
    refine lv_aload_n C.1 C.2.1 d_Desk_faultOfEntity_13 rfl (lv_at hl 0 rfl) ?_
    refine r_get C Z 0 f_Desk_46 rfl rfl d_Desk_faultOfEntity_14 ?_
    refine lv_iload_n C.1 C.2.1 d_Desk_faultOfEntity_17 rfl (lv_at hl 1 rfl) ?_
    refine r_zldN C Z 3 rfl (by omega) (by decide) d_Desk_faultOfEntity_18 ?_
    refine r_zeq (tgt := 25) C d_Desk_faultOfEntity_19 (by decide) (by omega) (fun h19 => ?_) (fun h19 => ?_)
    · skip
      refine lv_iload_n C.1 C.2.1 d_Desk_faultOfEntity_25 rfl (lv_at hl 2 rfl) ?_
      refine lv_bipush (v := nI 12) C.1 C.2.1 d_Desk_faultOfEntity_26 (by decide) ?_
      refine r_le (tgt := 34) C d_Desk_faultOfEntity_28 (by decide) (by omega) (by omega) (fun h28 => ?_) (fun h28 => ?_)
      · skip
        refine lv_aload_n C.1 C.2.1 d_Desk_faultOfEntity_34 rfl (lv_at hl 0 rfl) ?_
        refine r_get C Z 0 f_Desk_53 rfl rfl d_Desk_faultOfEntity_35 ?_
        refine lv_aload_n C.1 C.2.1 d_Desk_faultOfEntity_38 rfl (lv_at hl 0 rfl) ?_
        refine r_get C Z 0 f_Desk_20 rfl rfl d_Desk_faultOfEntity_39 ?_
        refine lv_iload_n C.1 C.2.1 d_Desk_faultOfEntity_42 rfl (lv_at hl 1 rfl) ?_
        refine r_callNi (rest := [.int (nI me)]) (wr := [(dA, .inr (0, [.ref hA, .int (nI n), .ref eA, .ref rA, .int (nI fa), .int fp, .int (nI op), .ref oA, .int (nI ol), .ref pA, .int (nI ml), .int (nI me), .int pu, .int (nI de)])), (pA, .inl (cZ, 26, .inl (aN opn)))]) (wn := fun u => [(dA, .inr (0, [.ref hA, .int (nI n), .ref eA, .ref rA, .int (nI fa), .int fp, .int (nI op), .ref oA, .int (nI ol), .ref pA, .int (nI ml), .int (nI me), .int pu, .int (nI de)])), (eA, .inr (1, [.ref wA, .ref sA, .ref lA, .int dl, .int (nI kept), .int (nI dr)])), (lA, .inl (cI, 26, .inl (aM ln))), (pA, .inl (cZ, 26, .inl (aN opn)))]) C Z (c_Ents_lengthOf l D cI cZ eA wA sA lA dl kept dr ln k (by first | assumption | omega) (by first | assumption | omega)) k_Desk_83 rfl ⟨by rw [hR]; decide, by rw [hR]; decide⟩ ⟨rfl, rfl⟩ [1, 2] [0, 3] [0, 2, 3, 1] (by decide) rfl rfl (by decide) (by decide) (by decide) (fun _ => rfl) 1 rfl rfl hl.1 rfl (Nat.le_of_ble_eq_true rfl) d_Desk_faultOfEntity_43 ⟨Nat.zero_le _, Nat.zero_le _⟩ (fun r u H locs hp Z => ?_)
        obtain ⟨hp1, hp2⟩ := hp; have hp1 := hp1.symm; have hp2 := hp2.symm; subst hp1; subst hp2
        have Z : Wd D A s.heap [(dA, .inr (0, [.ref hA, .int (nI n), .ref eA, .ref rA, .int (nI fa), .int fp, .int (nI op), .ref oA, .int (nI ol), .ref pA, .int (nI ml), .int (nI me), .int pu, .int (nI de)])), (eA, .inr (1, [.ref wA, .ref sA, .ref lA, .int dl, .int (nI kept), .int (nI dr)])), (lA, .inl (cI, 26, .inl (aM ln))), (pA, .inl (cZ, 26, .inl (aN opn)))] H locs := Z
        refine r_add C d_Desk_faultOfEntity_46 ?_
        refine lv_aload_n C.1 C.2.1 d_Desk_faultOfEntity_47 rfl (lv_at hl 0 rfl) ?_
        refine r_get C Z 0 f_Desk_50 rfl rfl d_Desk_faultOfEntity_48 ?_
        refine r_le (tgt := 59) C d_Desk_faultOfEntity_51 (by decide) (by omega) (by omega) (fun h51 => ?_) (fun h51 => ?_)
        · skip
          refine lv_iconst (v := nI 0) C.1 C.2.1 d_Desk_faultOfEntity_59 (by decide) ?_
          exact r_iret C Z () ⟨by clear C Z hl; congr 1; unfold fltE; (repeat' split) <;> omega, rfl⟩ rfl hQ d_Desk_faultOfEntity_60
        · skip
          refine lv_bipush (v := nI 14) C.1 C.2.1 d_Desk_faultOfEntity_54 (by decide) ?_
          refine lv_goto (tgt := 60) C.1 C.2.1 d_Desk_faultOfEntity_56 (by decide) ?_
          exact r_iret C Z () ⟨by clear C Z hl; congr 1; unfold fltE; (repeat' split) <;> omega, rfl⟩ rfl hQ d_Desk_faultOfEntity_60
      · skip
        refine lv_bipush (v := nI 15) C.1 C.2.1 d_Desk_faultOfEntity_31 (by decide) ?_
        exact r_iret C Z () ⟨by clear C Z hl; congr 1; unfold fltE; (repeat' split) <;> omega, rfl⟩ rfl hQ d_Desk_faultOfEntity_33
    · skip
      refine lv_bipush (v := nI 6) C.1 C.2.1 d_Desk_faultOfEntity_22 (by decide) ?_
      exact r_iret C Z () ⟨by clear C Z hl; congr 1; unfold fltE; (repeat' split) <;> omega, rfl⟩ rfl hQ d_Desk_faultOfEntity_24
  · skip
    refine lv_iconst (v := nI 5) C.1 C.2.1 d_Desk_faultOfEntity_11 (by decide) ?_
    exact r_iret C Z () ⟨by clear C Z hl; congr 1; unfold fltE; (repeat' split) <;> omega, rfl⟩ rfl hQ d_Desk_faultOfEntity_12
