set_option maxHeartbeats 4000000 in
set_option maxRecDepth 100000 in
theorem c_Reader_begin (l : Launch) (D : va_G) (cI cZ : ClassId) (rA : Nat) (st : Nat) (nm : Nat) (nu : Nat) : Mv l y_Reader_begin b_Reader_begin 1 ({ frames := 0, cells := 0, slots := 0, locals := 0 } : Room) D cI cZ [.ref rA] [(rA, .inr (2, [.int (nI st), .int (nI nm), .int (nI nu)]))] (fun u : Nat => u = 0) (fun u : Nat => [(rA, .inr (2, [.int (nI u), .int (nI nm), .int (nI nu)]))]) 0 0 := by
  refine Mv.intro (by decide) (Nat.le_of_ble_eq_true rfl) ?_
  intro p e s m args below meth cd A ls R Q hR hQ C hin Z hl
  have hl : lv_has ls 1 [(0, .ref rA)] := hl
  refine lv_aload_n C.1 C.2.1 d_Reader_begin_0 rfl (lv_at hl 0 rfl) ?_
  refine lv_iconst (v := nI 0) C.1 C.2.1 d_Reader_begin_1 (by decide) ?_
  refine r_put (ws' := [(rA, .inr (2, [.int (nI 0), .int (nI nm), .int (nI nu)]))]) C Z 0 f_Reader_11 rfl rfl rfl (Nat.le_of_ble_eq_true rfl) rfl d_Reader_begin_2 (fun H locs Z => ?_)
  exact r_vret C Z 0 (by first | exact rfl | (clear C Z hl; grind)) rfl hQ d_Reader_begin_5

set_option maxHeartbeats 4000000 in
set_option maxRecDepth 100000 in
theorem c_Reader_isWithin (l : Launch) (D : va_G) (cI cZ : ClassId) (rA : Nat) (st : Nat) (nm : Nat) (nu : Nat) (hst : st ≤ 6) : Mi l y_Reader_isWithin b_Reader_isWithin 1 (some .boolean) ({ frames := 0, cells := 0, slots := 0, locals := 0 } : Room) D cI cZ [.ref rA] [(rA, .inr (2, [.int (nI st), .int (nI nm), .int (nI nu)]))] (fun (r : Int32) (u : Unit) => r = nI (min st 1) ∧ u = ()) (fun u : Unit => [(rA, .inr (2, [.int (nI st), .int (nI nm), .int (nI nu)]))]) := by
  refine Mi.intro (by decide) (Nat.le_of_ble_eq_true rfl) ?_
  intro p e s m args below meth cd A ls R Q hR hQ C Z hl
  have hl : lv_has ls 1 [(0, .ref rA)] := hl
  refine lv_aload_n C.1 C.2.1 d_Reader_isWithin_0 rfl (lv_at hl 0 rfl) ?_
  refine r_get C Z 0 f_Reader_11 rfl rfl d_Reader_isWithin_1 ?_
  refine r_zeq (tgt := 11) C d_Reader_isWithin_4 (by decide) (by omega) (fun h4 => ?_) (fun h4 => ?_)
  · skip
    refine lv_iconst (v := nI 0) C.1 C.2.1 d_Reader_isWithin_11 (by decide) ?_
    exact r_zret C Z (by omega) () ⟨by congr 1; omega, rfl⟩ rfl hQ d_Reader_isWithin_12
  · skip
    refine lv_iconst (v := nI 1) C.1 C.2.1 d_Reader_isWithin_7 (by decide) ?_
    refine lv_goto (tgt := 12) C.1 C.2.1 d_Reader_isWithin_8 (by decide) ?_
    exact r_zret C Z (by omega) () ⟨by congr 1; omega, rfl⟩ rfl hQ d_Reader_isWithin_12

set_option maxHeartbeats 4000000 in
set_option maxRecDepth 100000 in
theorem c_Reader_goOn (l : Launch) (D : va_G) (cI cZ : ClassId) (rA : Nat) (st : Nat) (nm : Nat) (nu : Nat) (x : Nat) : Mi l y_Reader_goOn b_Reader_goOn 2 (some .int) ({ frames := 0, cells := 0, slots := 0, locals := 0 } : Room) D cI cZ [.ref rA, .int (nI x)] [(rA, .inr (2, [.int (nI st), .int (nI nm), .int (nI nu)]))] (fun (r : Int32) (u : Nat) => r = nI 1 ∧ u = x) (fun u : Nat => [(rA, .inr (2, [.int (nI u), .int (nI nm), .int (nI nu)]))]) := by
  refine Mi.intro (by decide) (Nat.le_of_ble_eq_true rfl) ?_
  intro p e s m args below meth cd A ls R Q hR hQ C Z hl
  have hl : lv_has ls 2 [(0, .ref rA), (1, .int (nI x))] := hl
  refine lv_aload_n C.1 C.2.1 d_Reader_goOn_0 rfl (lv_at hl 0 rfl) ?_
  refine lv_iload_n C.1 C.2.1 d_Reader_goOn_1 rfl (lv_at hl 1 rfl) ?_
  refine r_put (ws' := [(rA, .inr (2, [.int (nI x), .int (nI nm), .int (nI nu)]))]) C Z 0 f_Reader_11 rfl rfl rfl (Nat.le_of_ble_eq_true rfl) rfl d_Reader_goOn_2 (fun H locs Z => ?_)
  refine lv_iconst (v := nI 1) C.1 C.2.1 d_Reader_goOn_5 (by decide) ?_
  exact r_iret C Z x (by first | exact ⟨rfl, rfl⟩ | (clear C Z hl; grind)) rfl hQ d_Reader_goOn_6

set_option maxHeartbeats 4000000 in
set_option maxRecDepth 100000 in
theorem c_Reader_finish (l : Launch) (D : va_G) (cI cZ : ClassId) (rA : Nat) (st : Nat) (nm : Nat) (nu : Nat) (x : Nat) : Mi l y_Reader_finish b_Reader_finish 2 (some .int) ({ frames := 0, cells := 0, slots := 0, locals := 0 } : Room) D cI cZ [.ref rA, .int (nI x)] [(rA, .inr (2, [.int (nI st), .int (nI nm), .int (nI nu)]))] (fun (r : Int32) (u : Nat) => r = nI x ∧ u = 0) (fun u : Nat => [(rA, .inr (2, [.int (nI u), .int (nI nm), .int (nI nu)]))]) := by
  refine Mi.intro (by decide) (Nat.le_of_ble_eq_true rfl) ?_
  intro p e s m args below meth cd A ls R Q hR hQ C Z hl
  have hl : lv_has ls 2 [(0, .ref rA), (1, .int (nI x))] := hl
  refine lv_aload_n C.1 C.2.1 d_Reader_finish_0 rfl (lv_at hl 0 rfl) ?_
  refine lv_iconst (v := nI 0) C.1 C.2.1 d_Reader_finish_1 (by decide) ?_
  refine r_put (ws' := [(rA, .inr (2, [.int (nI 0), .int (nI nm), .int (nI nu)]))]) C Z 0 f_Reader_11 rfl rfl rfl (Nat.le_of_ble_eq_true rfl) rfl d_Reader_finish_2 (fun H locs Z => ?_)
  refine lv_iload_n C.1 C.2.1 d_Reader_finish_5 rfl (lv_at hl 1 rfl) ?_
  exact r_iret C Z 0 (by first | exact ⟨rfl, rfl⟩ | (clear C Z hl; grind)) rfl hQ d_Reader_finish_6

set_option maxHeartbeats 4000000 in
set_option maxRecDepth 100000 in
theorem c_Reader_mayBe (l : Launch) (D : va_G) (cI cZ : ClassId) (x : Nat) (hx : x < 1000) : Mi l y_Reader_mayBe b_Reader_mayBe 1 (some .boolean) ({ frames := 0, cells := 0, slots := 0, locals := 0 } : Room) D cI cZ [.int (nI x)] [] (fun (r : Int32) (u : Unit) => r = nI (mayN x) ∧ u = ()) (fun u : Unit => []) := by
  refine Mi.intro (by decide) (Nat.le_of_ble_eq_true rfl) ?_
  intro p e s m args below meth cd A ls R Q hR hQ C Z hl
  have hl : lv_has ls 1 [(0, .int (nI x))] := hl
  refine lv_iload_n C.1 C.2.1 d_Reader_mayBe_0 rfl (lv_at hl 0 rfl) ?_
  refine lv_bipush (v := nI 9) C.1 C.2.1 d_Reader_mayBe_1 (by decide) ?_
  refine r_eq (tgt := 31) C d_Reader_mayBe_3 (by decide) (by omega) (by omega) (fun h3 => ?_) (fun h3 => ?_)
  · skip
    refine lv_iconst (v := nI 1) C.1 C.2.1 d_Reader_mayBe_31 (by decide) ?_
    refine lv_goto (tgt := 36) C.1 C.2.1 d_Reader_mayBe_32 (by decide) ?_
    exact r_zret C Z (by omega) () ⟨by congr 1; unfold mayN; split <;> omega, rfl⟩ rfl hQ d_Reader_mayBe_36
  · skip
    refine lv_iload_n C.1 C.2.1 d_Reader_mayBe_6 rfl (lv_at hl 0 rfl) ?_
    refine lv_bipush (v := nI 10) C.1 C.2.1 d_Reader_mayBe_7 (by decide) ?_
    refine r_eq (tgt := 31) C d_Reader_mayBe_9 (by decide) (by omega) (by omega) (fun h9 => ?_) (fun h9 => ?_)
    · skip
      refine lv_iconst (v := nI 1) C.1 C.2.1 d_Reader_mayBe_31 (by decide) ?_
      refine lv_goto (tgt := 36) C.1 C.2.1 d_Reader_mayBe_32 (by decide) ?_
      exact r_zret C Z (by omega) () ⟨by congr 1; unfold mayN; split <;> omega, rfl⟩ rfl hQ d_Reader_mayBe_36
    · skip
      refine lv_iload_n C.1 C.2.1 d_Reader_mayBe_12 rfl (lv_at hl 0 rfl) ?_
      refine lv_bipush (v := nI 13) C.1 C.2.1 d_Reader_mayBe_13 (by decide) ?_
      refine r_eq (tgt := 31) C d_Reader_mayBe_15 (by decide) (by omega) (by omega) (fun h15 => ?_) (fun h15 => ?_)
      · skip
        refine lv_iconst (v := nI 1) C.1 C.2.1 d_Reader_mayBe_31 (by decide) ?_
        refine lv_goto (tgt := 36) C.1 C.2.1 d_Reader_mayBe_32 (by decide) ?_
        exact r_zret C Z (by omega) () ⟨by congr 1; unfold mayN; split <;> omega, rfl⟩ rfl hQ d_Reader_mayBe_36
      · skip
        refine lv_iload_n C.1 C.2.1 d_Reader_mayBe_18 rfl (lv_at hl 0 rfl) ?_
        refine lv_bipush (v := nI 32) C.1 C.2.1 d_Reader_mayBe_19 (by decide) ?_
        refine r_lt (tgt := 35) C d_Reader_mayBe_21 (by decide) (by omega) (by omega) (fun h21 => ?_) (fun h21 => ?_)
        · skip
          refine lv_iconst (v := nI 0) C.1 C.2.1 d_Reader_mayBe_35 (by decide) ?_
          exact r_zret C Z (by omega) () ⟨by congr 1; unfold mayN; split <;> omega, rfl⟩ rfl hQ d_Reader_mayBe_36
        · skip
          refine lv_iload_n C.1 C.2.1 d_Reader_mayBe_24 rfl (lv_at hl 0 rfl) ?_
          refine lv_sipush (v := nI 255) C.1 C.2.1 d_Reader_mayBe_25 (by decide) ?_
          refine r_gt (tgt := 35) C d_Reader_mayBe_28 (by decide) (by omega) (by omega) (fun h28 => ?_) (fun h28 => ?_)
          · skip
            refine lv_iconst (v := nI 0) C.1 C.2.1 d_Reader_mayBe_35 (by decide) ?_
            exact r_zret C Z (by omega) () ⟨by congr 1; unfold mayN; split <;> omega, rfl⟩ rfl hQ d_Reader_mayBe_36
          · skip
            refine lv_iconst (v := nI 1) C.1 C.2.1 d_Reader_mayBe_31 (by decide) ?_
            refine lv_goto (tgt := 36) C.1 C.2.1 d_Reader_mayBe_32 (by decide) ?_
            exact r_zret C Z (by omega) () ⟨by congr 1; unfold mayN; split <;> omega, rfl⟩ rfl hQ d_Reader_mayBe_36

set_option maxHeartbeats 4000000 in
set_option maxRecDepth 100000 in
theorem c_Reader_valueOf (l : Launch) (D : va_G) (cI cZ : ClassId) (c : Nat) (v : Nat) (hc : c < 256) (hv : vN c = v + 1) : Mi l y_Reader_valueOf b_Reader_valueOf 1 (some .int) ({ frames := 0, cells := 0, slots := 0, locals := 0 } : Room) D cI cZ [.int (nI c)] [] (fun (r : Int32) (u : Unit) => r = nI v ∧ u = ()) (fun u : Unit => []) := by
  refine Mi.intro (by decide) (Nat.le_of_ble_eq_true rfl) ?_
  intro p e s m args below meth cd A ls R Q hR hQ C Z hl
  have hl : lv_has ls 1 [(0, .int (nI c))] := hl
  refine lv_iload_n C.1 C.2.1 d_Reader_valueOf_0 rfl (lv_at hl 0 rfl) ?_
  refine lv_bipush (v := nI 48) C.1 C.2.1 d_Reader_valueOf_1 (by decide) ?_
  refine r_lt (tgt := 17) C d_Reader_valueOf_3 (by decide) (by omega) (by omega) (fun h3 => ?_) (fun h3 => ?_)
  · skip
    refine lv_iload_n C.1 C.2.1 d_Reader_valueOf_17 rfl (lv_at hl 0 rfl) ?_
    refine lv_bipush (v := nI 97) C.1 C.2.1 d_Reader_valueOf_18 (by decide) ?_
    refine r_lt (tgt := 37) C d_Reader_valueOf_20 (by decide) (by omega) (by omega) (fun h20 => ?_) (fun h20 => ?_)
    · skip
      refine lv_iload_n C.1 C.2.1 d_Reader_valueOf_37 rfl (lv_at hl 0 rfl) ?_
      refine lv_bipush (v := nI 65) C.1 C.2.1 d_Reader_valueOf_38 (by decide) ?_
      refine r_lt (tgt := 57) C d_Reader_valueOf_40 (by decide) (by omega) (by omega) (fun h40 => ?_) (fun h40 => ?_)
      · skip
        refine lv_iconst (v := (-1)) C.1 C.2.1 d_Reader_valueOf_57 (by decide) ?_
        exact r_iret C Z () (by clear C Z hl; unfold vN at hv; (repeat' split at hv) <;> first | omega | exact ⟨by congr 1; omega, rfl⟩) rfl hQ d_Reader_valueOf_58
      · skip
        refine lv_iload_n C.1 C.2.1 d_Reader_valueOf_43 rfl (lv_at hl 0 rfl) ?_
        refine lv_bipush (v := nI 70) C.1 C.2.1 d_Reader_valueOf_44 (by decide) ?_
        refine r_gt (tgt := 57) C d_Reader_valueOf_46 (by decide) (by omega) (by omega) (fun h46 => ?_) (fun h46 => ?_)
        · skip
          refine lv_iconst (v := (-1)) C.1 C.2.1 d_Reader_valueOf_57 (by decide) ?_
          exact r_iret C Z () (by clear C Z hl; unfold vN at hv; (repeat' split at hv) <;> first | omega | exact ⟨by congr 1; omega, rfl⟩) rfl hQ d_Reader_valueOf_58
        · skip
          refine lv_iload_n C.1 C.2.1 d_Reader_valueOf_49 rfl (lv_at hl 0 rfl) ?_
          refine lv_bipush (v := nI 65) C.1 C.2.1 d_Reader_valueOf_50 (by decide) ?_
          refine r_sub C (by omega) d_Reader_valueOf_52 ?_
          refine lv_bipush (v := nI 10) C.1 C.2.1 d_Reader_valueOf_53 (by decide) ?_
          refine r_add C d_Reader_valueOf_55 ?_
          exact r_iret C Z () (by clear C Z hl; unfold vN at hv; (repeat' split at hv) <;> first | omega | exact ⟨by congr 1; omega, rfl⟩) rfl hQ d_Reader_valueOf_56
    · skip
      refine lv_iload_n C.1 C.2.1 d_Reader_valueOf_23 rfl (lv_at hl 0 rfl) ?_
      refine lv_bipush (v := nI 102) C.1 C.2.1 d_Reader_valueOf_24 (by decide) ?_
      refine r_gt (tgt := 37) C d_Reader_valueOf_26 (by decide) (by omega) (by omega) (fun h26 => ?_) (fun h26 => ?_)
      · skip
        refine lv_iload_n C.1 C.2.1 d_Reader_valueOf_37 rfl (lv_at hl 0 rfl) ?_
        refine lv_bipush (v := nI 65) C.1 C.2.1 d_Reader_valueOf_38 (by decide) ?_
        refine r_lt (tgt := 57) C d_Reader_valueOf_40 (by decide) (by omega) (by omega) (fun h40 => ?_) (fun h40 => ?_)
        · skip
          refine lv_iconst (v := (-1)) C.1 C.2.1 d_Reader_valueOf_57 (by decide) ?_
          exact r_iret C Z () (by clear C Z hl; unfold vN at hv; (repeat' split at hv) <;> first | omega | exact ⟨by congr 1; omega, rfl⟩) rfl hQ d_Reader_valueOf_58
        · skip
          refine lv_iload_n C.1 C.2.1 d_Reader_valueOf_43 rfl (lv_at hl 0 rfl) ?_
          refine lv_bipush (v := nI 70) C.1 C.2.1 d_Reader_valueOf_44 (by decide) ?_
          refine r_gt (tgt := 57) C d_Reader_valueOf_46 (by decide) (by omega) (by omega) (fun h46 => ?_) (fun h46 => ?_)
          · skip
            refine lv_iconst (v := (-1)) C.1 C.2.1 d_Reader_valueOf_57 (by decide) ?_
            exact r_iret C Z () (by clear C Z hl; unfold vN at hv; (repeat' split at hv) <;> first | omega | exact ⟨by congr 1; omega, rfl⟩) rfl hQ d_Reader_valueOf_58
          · skip
            refine lv_iload_n C.1 C.2.1 d_Reader_valueOf_49 rfl (lv_at hl 0 rfl) ?_
            refine lv_bipush (v := nI 65) C.1 C.2.1 d_Reader_valueOf_50 (by decide) ?_
            refine r_sub C (by omega) d_Reader_valueOf_52 ?_
            refine lv_bipush (v := nI 10) C.1 C.2.1 d_Reader_valueOf_53 (by decide) ?_
            refine r_add C d_Reader_valueOf_55 ?_
            exact r_iret C Z () (by clear C Z hl; unfold vN at hv; (repeat' split at hv) <;> first | omega | exact ⟨by congr 1; omega, rfl⟩) rfl hQ d_Reader_valueOf_56
      · skip
        refine lv_iload_n C.1 C.2.1 d_Reader_valueOf_29 rfl (lv_at hl 0 rfl) ?_
        refine lv_bipush (v := nI 97) C.1 C.2.1 d_Reader_valueOf_30 (by decide) ?_
        refine r_sub C (by omega) d_Reader_valueOf_32 ?_
        refine lv_bipush (v := nI 10) C.1 C.2.1 d_Reader_valueOf_33 (by decide) ?_
        refine r_add C d_Reader_valueOf_35 ?_
        exact r_iret C Z () (by clear C Z hl; unfold vN at hv; (repeat' split at hv) <;> first | omega | exact ⟨by congr 1; omega, rfl⟩) rfl hQ d_Reader_valueOf_36
  · skip
    refine lv_iload_n C.1 C.2.1 d_Reader_valueOf_6 rfl (lv_at hl 0 rfl) ?_
    refine lv_bipush (v := nI 57) C.1 C.2.1 d_Reader_valueOf_7 (by decide) ?_
    refine r_gt (tgt := 17) C d_Reader_valueOf_9 (by decide) (by omega) (by omega) (fun h9 => ?_) (fun h9 => ?_)
    · skip
      refine lv_iload_n C.1 C.2.1 d_Reader_valueOf_17 rfl (lv_at hl 0 rfl) ?_
      refine lv_bipush (v := nI 97) C.1 C.2.1 d_Reader_valueOf_18 (by decide) ?_
      refine r_lt (tgt := 37) C d_Reader_valueOf_20 (by decide) (by omega) (by omega) (fun h20 => ?_) (fun h20 => ?_)
      · skip
        refine lv_iload_n C.1 C.2.1 d_Reader_valueOf_37 rfl (lv_at hl 0 rfl) ?_
        refine lv_bipush (v := nI 65) C.1 C.2.1 d_Reader_valueOf_38 (by decide) ?_
        refine r_lt (tgt := 57) C d_Reader_valueOf_40 (by decide) (by omega) (by omega) (fun h40 => ?_) (fun h40 => ?_)
        · skip
          refine lv_iconst (v := (-1)) C.1 C.2.1 d_Reader_valueOf_57 (by decide) ?_
          exact r_iret C Z () (by clear C Z hl; unfold vN at hv; (repeat' split at hv) <;> first | omega | exact ⟨by congr 1; omega, rfl⟩) rfl hQ d_Reader_valueOf_58
        · skip
          refine lv_iload_n C.1 C.2.1 d_Reader_valueOf_43 rfl (lv_at hl 0 rfl) ?_
          refine lv_bipush (v := nI 70) C.1 C.2.1 d_Reader_valueOf_44 (by decide) ?_
          refine r_gt (tgt := 57) C d_Reader_valueOf_46 (by decide) (by omega) (by omega) (fun h46 => ?_) (fun h46 => ?_)
          · skip
            refine lv_iconst (v := (-1)) C.1 C.2.1 d_Reader_valueOf_57 (by decide) ?_
            exact r_iret C Z () (by clear C Z hl; unfold vN at hv; (repeat' split at hv) <;> first | omega | exact ⟨by congr 1; omega, rfl⟩) rfl hQ d_Reader_valueOf_58
          · skip
            refine lv_iload_n C.1 C.2.1 d_Reader_valueOf_49 rfl (lv_at hl 0 rfl) ?_
            refine lv_bipush (v := nI 65) C.1 C.2.1 d_Reader_valueOf_50 (by decide) ?_
            refine r_sub C (by omega) d_Reader_valueOf_52 ?_
            refine lv_bipush (v := nI 10) C.1 C.2.1 d_Reader_valueOf_53 (by decide) ?_
            refine r_add C d_Reader_valueOf_55 ?_
            exact r_iret C Z () (by clear C Z hl; unfold vN at hv; (repeat' split at hv) <;> first | omega | exact ⟨by congr 1; omega, rfl⟩) rfl hQ d_Reader_valueOf_56
      · skip
        refine lv_iload_n C.1 C.2.1 d_Reader_valueOf_23 rfl (lv_at hl 0 rfl) ?_
        refine lv_bipush (v := nI 102) C.1 C.2.1 d_Reader_valueOf_24 (by decide) ?_
        refine r_gt (tgt := 37) C d_Reader_valueOf_26 (by decide) (by omega) (by omega) (fun h26 => ?_) (fun h26 => ?_)
        · skip
          refine lv_iload_n C.1 C.2.1 d_Reader_valueOf_37 rfl (lv_at hl 0 rfl) ?_
          refine lv_bipush (v := nI 65) C.1 C.2.1 d_Reader_valueOf_38 (by decide) ?_
          refine r_lt (tgt := 57) C d_Reader_valueOf_40 (by decide) (by omega) (by omega) (fun h40 => ?_) (fun h40 => ?_)
          · skip
            refine lv_iconst (v := (-1)) C.1 C.2.1 d_Reader_valueOf_57 (by decide) ?_
            exact r_iret C Z () (by clear C Z hl; unfold vN at hv; (repeat' split at hv) <;> first | omega | exact ⟨by congr 1; omega, rfl⟩) rfl hQ d_Reader_valueOf_58
          · skip
            refine lv_iload_n C.1 C.2.1 d_Reader_valueOf_43 rfl (lv_at hl 0 rfl) ?_
            refine lv_bipush (v := nI 70) C.1 C.2.1 d_Reader_valueOf_44 (by decide) ?_
            refine r_gt (tgt := 57) C d_Reader_valueOf_46 (by decide) (by omega) (by omega) (fun h46 => ?_) (fun h46 => ?_)
            · skip
              refine lv_iconst (v := (-1)) C.1 C.2.1 d_Reader_valueOf_57 (by decide) ?_
              exact r_iret C Z () (by clear C Z hl; unfold vN at hv; (repeat' split at hv) <;> first | omega | exact ⟨by congr 1; omega, rfl⟩) rfl hQ d_Reader_valueOf_58
            · skip
              refine lv_iload_n C.1 C.2.1 d_Reader_valueOf_49 rfl (lv_at hl 0 rfl) ?_
              refine lv_bipush (v := nI 65) C.1 C.2.1 d_Reader_valueOf_50 (by decide) ?_
              refine r_sub C (by omega) d_Reader_valueOf_52 ?_
              refine lv_bipush (v := nI 10) C.1 C.2.1 d_Reader_valueOf_53 (by decide) ?_
              refine r_add C d_Reader_valueOf_55 ?_
              exact r_iret C Z () (by clear C Z hl; unfold vN at hv; (repeat' split at hv) <;> first | omega | exact ⟨by congr 1; omega, rfl⟩) rfl hQ d_Reader_valueOf_56
        · skip
          refine lv_iload_n C.1 C.2.1 d_Reader_valueOf_29 rfl (lv_at hl 0 rfl) ?_
          refine lv_bipush (v := nI 97) C.1 C.2.1 d_Reader_valueOf_30 (by decide) ?_
          refine r_sub C (by omega) d_Reader_valueOf_32 ?_
          refine lv_bipush (v := nI 10) C.1 C.2.1 d_Reader_valueOf_33 (by decide) ?_
          refine r_add C d_Reader_valueOf_35 ?_
          exact r_iret C Z () (by clear C Z hl; unfold vN at hv; (repeat' split at hv) <;> first | omega | exact ⟨by congr 1; omega, rfl⟩) rfl hQ d_Reader_valueOf_36
    · skip
      refine lv_iload_n C.1 C.2.1 d_Reader_valueOf_12 rfl (lv_at hl 0 rfl) ?_
      refine lv_bipush (v := nI 48) C.1 C.2.1 d_Reader_valueOf_13 (by decide) ?_
      refine r_sub C (by omega) d_Reader_valueOf_15 ?_
      exact r_iret C Z () (by clear C Z hl; unfold vN at hv; (repeat' split at hv) <;> first | omega | exact ⟨by congr 1; omega, rfl⟩) rfl hQ d_Reader_valueOf_16

set_option maxHeartbeats 4000000 in
set_option maxRecDepth 100000 in
theorem c_Reader_valueOf0 (l : Launch) (D : va_G) (cI cZ : ClassId) (c : Nat) (hc : c < 256) (hv : vN c = 0) : Mi l y_Reader_valueOf b_Reader_valueOf 1 (some .int) ({ frames := 0, cells := 0, slots := 0, locals := 0 } : Room) D cI cZ [.int (nI c)] [] (fun (r : Int32) (u : Unit) => r = (-1) ∧ u = ()) (fun u : Unit => []) := by
  refine Mi.intro (by decide) (Nat.le_of_ble_eq_true rfl) ?_
  intro p e s m args below meth cd A ls R Q hR hQ C Z hl
  have hl : lv_has ls 1 [(0, .int (nI c))] := hl
  refine lv_iload_n C.1 C.2.1 d_Reader_valueOf_0 rfl (lv_at hl 0 rfl) ?_
  refine lv_bipush (v := nI 48) C.1 C.2.1 d_Reader_valueOf_1 (by decide) ?_
  refine r_lt (tgt := 17) C d_Reader_valueOf_3 (by decide) (by omega) (by omega) (fun h3 => ?_) (fun h3 => ?_)
  · skip
    refine lv_iload_n C.1 C.2.1 d_Reader_valueOf_17 rfl (lv_at hl 0 rfl) ?_
    refine lv_bipush (v := nI 97) C.1 C.2.1 d_Reader_valueOf_18 (by decide) ?_
    refine r_lt (tgt := 37) C d_Reader_valueOf_20 (by decide) (by omega) (by omega) (fun h20 => ?_) (fun h20 => ?_)
    · skip
      refine lv_iload_n C.1 C.2.1 d_Reader_valueOf_37 rfl (lv_at hl 0 rfl) ?_
      refine lv_bipush (v := nI 65) C.1 C.2.1 d_Reader_valueOf_38 (by decide) ?_
      refine r_lt (tgt := 57) C d_Reader_valueOf_40 (by decide) (by omega) (by omega) (fun h40 => ?_) (fun h40 => ?_)
      · skip
        refine lv_iconst (v := (-1)) C.1 C.2.1 d_Reader_valueOf_57 (by decide) ?_
        exact r_iret C Z () (by clear C Z hl; unfold vN at hv; (repeat' split at hv) <;> first | omega | exact ⟨rfl, rfl⟩) rfl hQ d_Reader_valueOf_58
      · skip
        refine lv_iload_n C.1 C.2.1 d_Reader_valueOf_43 rfl (lv_at hl 0 rfl) ?_
        refine lv_bipush (v := nI 70) C.1 C.2.1 d_Reader_valueOf_44 (by decide) ?_
        refine r_gt (tgt := 57) C d_Reader_valueOf_46 (by decide) (by omega) (by omega) (fun h46 => ?_) (fun h46 => ?_)
        · skip
          refine lv_iconst (v := (-1)) C.1 C.2.1 d_Reader_valueOf_57 (by decide) ?_
          exact r_iret C Z () (by clear C Z hl; unfold vN at hv; (repeat' split at hv) <;> first | omega | exact ⟨rfl, rfl⟩) rfl hQ d_Reader_valueOf_58
        · skip
          refine lv_iload_n C.1 C.2.1 d_Reader_valueOf_49 rfl (lv_at hl 0 rfl) ?_
          refine lv_bipush (v := nI 65) C.1 C.2.1 d_Reader_valueOf_50 (by decide) ?_
          refine r_sub C (by omega) d_Reader_valueOf_52 ?_
          refine lv_bipush (v := nI 10) C.1 C.2.1 d_Reader_valueOf_53 (by decide) ?_
          refine r_add C d_Reader_valueOf_55 ?_
          exact r_iret C Z () (by clear C Z hl; unfold vN at hv; (repeat' split at hv) <;> first | omega | exact ⟨rfl, rfl⟩) rfl hQ d_Reader_valueOf_56
    · skip
      refine lv_iload_n C.1 C.2.1 d_Reader_valueOf_23 rfl (lv_at hl 0 rfl) ?_
      refine lv_bipush (v := nI 102) C.1 C.2.1 d_Reader_valueOf_24 (by decide) ?_
      refine r_gt (tgt := 37) C d_Reader_valueOf_26 (by decide) (by omega) (by omega) (fun h26 => ?_) (fun h26 => ?_)
      · skip
        refine lv_iload_n C.1 C.2.1 d_Reader_valueOf_37 rfl (lv_at hl 0 rfl) ?_
        refine lv_bipush (v := nI 65) C.1 C.2.1 d_Reader_valueOf_38 (by decide) ?_
        refine r_lt (tgt := 57) C d_Reader_valueOf_40 (by decide) (by omega) (by omega) (fun h40 => ?_) (fun h40 => ?_)
        · skip
          refine lv_iconst (v := (-1)) C.1 C.2.1 d_Reader_valueOf_57 (by decide) ?_
          exact r_iret C Z () (by clear C Z hl; unfold vN at hv; (repeat' split at hv) <;> first | omega | exact ⟨rfl, rfl⟩) rfl hQ d_Reader_valueOf_58
        · skip
          refine lv_iload_n C.1 C.2.1 d_Reader_valueOf_43 rfl (lv_at hl 0 rfl) ?_
          refine lv_bipush (v := nI 70) C.1 C.2.1 d_Reader_valueOf_44 (by decide) ?_
          refine r_gt (tgt := 57) C d_Reader_valueOf_46 (by decide) (by omega) (by omega) (fun h46 => ?_) (fun h46 => ?_)
          · skip
            refine lv_iconst (v := (-1)) C.1 C.2.1 d_Reader_valueOf_57 (by decide) ?_
            exact r_iret C Z () (by clear C Z hl; unfold vN at hv; (repeat' split at hv) <;> first | omega | exact ⟨rfl, rfl⟩) rfl hQ d_Reader_valueOf_58
          · skip
            refine lv_iload_n C.1 C.2.1 d_Reader_valueOf_49 rfl (lv_at hl 0 rfl) ?_
            refine lv_bipush (v := nI 65) C.1 C.2.1 d_Reader_valueOf_50 (by decide) ?_
            refine r_sub C (by omega) d_Reader_valueOf_52 ?_
            refine lv_bipush (v := nI 10) C.1 C.2.1 d_Reader_valueOf_53 (by decide) ?_
            refine r_add C d_Reader_valueOf_55 ?_
            exact r_iret C Z () (by clear C Z hl; unfold vN at hv; (repeat' split at hv) <;> first | omega | exact ⟨rfl, rfl⟩) rfl hQ d_Reader_valueOf_56
      · skip
        refine lv_iload_n C.1 C.2.1 d_Reader_valueOf_29 rfl (lv_at hl 0 rfl) ?_
        refine lv_bipush (v := nI 97) C.1 C.2.1 d_Reader_valueOf_30 (by decide) ?_
        refine r_sub C (by omega) d_Reader_valueOf_32 ?_
        refine lv_bipush (v := nI 10) C.1 C.2.1 d_Reader_valueOf_33 (by decide) ?_
        refine r_add C d_Reader_valueOf_35 ?_
        exact r_iret C Z () (by clear C Z hl; unfold vN at hv; (repeat' split at hv) <;> first | omega | exact ⟨rfl, rfl⟩) rfl hQ d_Reader_valueOf_36
  · skip
    refine lv_iload_n C.1 C.2.1 d_Reader_valueOf_6 rfl (lv_at hl 0 rfl) ?_
    refine lv_bipush (v := nI 57) C.1 C.2.1 d_Reader_valueOf_7 (by decide) ?_
    refine r_gt (tgt := 17) C d_Reader_valueOf_9 (by decide) (by omega) (by omega) (fun h9 => ?_) (fun h9 => ?_)
    · skip
      refine lv_iload_n C.1 C.2.1 d_Reader_valueOf_17 rfl (lv_at hl 0 rfl) ?_
      refine lv_bipush (v := nI 97) C.1 C.2.1 d_Reader_valueOf_18 (by decide) ?_
      refine r_lt (tgt := 37) C d_Reader_valueOf_20 (by decide) (by omega) (by omega) (fun h20 => ?_) (fun h20 => ?_)
      · skip
        refine lv_iload_n C.1 C.2.1 d_Reader_valueOf_37 rfl (lv_at hl 0 rfl) ?_
        refine lv_bipush (v := nI 65) C.1 C.2.1 d_Reader_valueOf_38 (by decide) ?_
        refine r_lt (tgt := 57) C d_Reader_valueOf_40 (by decide) (by omega) (by omega) (fun h40 => ?_) (fun h40 => ?_)
        · skip
          refine lv_iconst (v := (-1)) C.1 C.2.1 d_Reader_valueOf_57 (by decide) ?_
          exact r_iret C Z () (by clear C Z hl; unfold vN at hv; (repeat' split at hv) <;> first | omega | exact ⟨rfl, rfl⟩) rfl hQ d_Reader_valueOf_58
        · skip
          refine lv_iload_n C.1 C.2.1 d_Reader_valueOf_43 rfl (lv_at hl 0 rfl) ?_
          refine lv_bipush (v := nI 70) C.1 C.2.1 d_Reader_valueOf_44 (by decide) ?_
          refine r_gt (tgt := 57) C d_Reader_valueOf_46 (by decide) (by omega) (by omega) (fun h46 => ?_) (fun h46 => ?_)
          · skip
            refine lv_iconst (v := (-1)) C.1 C.2.1 d_Reader_valueOf_57 (by decide) ?_
            exact r_iret C Z () (by clear C Z hl; unfold vN at hv; (repeat' split at hv) <;> first | omega | exact ⟨rfl, rfl⟩) rfl hQ d_Reader_valueOf_58
          · skip
            refine lv_iload_n C.1 C.2.1 d_Reader_valueOf_49 rfl (lv_at hl 0 rfl) ?_
            refine lv_bipush (v := nI 65) C.1 C.2.1 d_Reader_valueOf_50 (by decide) ?_
            refine r_sub C (by omega) d_Reader_valueOf_52 ?_
            refine lv_bipush (v := nI 10) C.1 C.2.1 d_Reader_valueOf_53 (by decide) ?_
            refine r_add C d_Reader_valueOf_55 ?_
            exact r_iret C Z () (by clear C Z hl; unfold vN at hv; (repeat' split at hv) <;> first | omega | exact ⟨rfl, rfl⟩) rfl hQ d_Reader_valueOf_56
      · skip
        refine lv_iload_n C.1 C.2.1 d_Reader_valueOf_23 rfl (lv_at hl 0 rfl) ?_
        refine lv_bipush (v := nI 102) C.1 C.2.1 d_Reader_valueOf_24 (by decide) ?_
        refine r_gt (tgt := 37) C d_Reader_valueOf_26 (by decide) (by omega) (by omega) (fun h26 => ?_) (fun h26 => ?_)
        · skip
          refine lv_iload_n C.1 C.2.1 d_Reader_valueOf_37 rfl (lv_at hl 0 rfl) ?_
          refine lv_bipush (v := nI 65) C.1 C.2.1 d_Reader_valueOf_38 (by decide) ?_
          refine r_lt (tgt := 57) C d_Reader_valueOf_40 (by decide) (by omega) (by omega) (fun h40 => ?_) (fun h40 => ?_)
          · skip
            refine lv_iconst (v := (-1)) C.1 C.2.1 d_Reader_valueOf_57 (by decide) ?_
            exact r_iret C Z () (by clear C Z hl; unfold vN at hv; (repeat' split at hv) <;> first | omega | exact ⟨rfl, rfl⟩) rfl hQ d_Reader_valueOf_58
          · skip
            refine lv_iload_n C.1 C.2.1 d_Reader_valueOf_43 rfl (lv_at hl 0 rfl) ?_
            refine lv_bipush (v := nI 70) C.1 C.2.1 d_Reader_valueOf_44 (by decide) ?_
            refine r_gt (tgt := 57) C d_Reader_valueOf_46 (by decide) (by omega) (by omega) (fun h46 => ?_) (fun h46 => ?_)
            · skip
              refine lv_iconst (v := (-1)) C.1 C.2.1 d_Reader_valueOf_57 (by decide) ?_
              exact r_iret C Z () (by clear C Z hl; unfold vN at hv; (repeat' split at hv) <;> first | omega | exact ⟨rfl, rfl⟩) rfl hQ d_Reader_valueOf_58
            · skip
              refine lv_iload_n C.1 C.2.1 d_Reader_valueOf_49 rfl (lv_at hl 0 rfl) ?_
              refine lv_bipush (v := nI 65) C.1 C.2.1 d_Reader_valueOf_50 (by decide) ?_
              refine r_sub C (by omega) d_Reader_valueOf_52 ?_
              refine lv_bipush (v := nI 10) C.1 C.2.1 d_Reader_valueOf_53 (by decide) ?_
              refine r_add C d_Reader_valueOf_55 ?_
              exact r_iret C Z () (by clear C Z hl; unfold vN at hv; (repeat' split at hv) <;> first | omega | exact ⟨rfl, rfl⟩) rfl hQ d_Reader_valueOf_56
        · skip
          refine lv_iload_n C.1 C.2.1 d_Reader_valueOf_29 rfl (lv_at hl 0 rfl) ?_
          refine lv_bipush (v := nI 97) C.1 C.2.1 d_Reader_valueOf_30 (by decide) ?_
          refine r_sub C (by omega) d_Reader_valueOf_32 ?_
          refine lv_bipush (v := nI 10) C.1 C.2.1 d_Reader_valueOf_33 (by decide) ?_
          refine r_add C d_Reader_valueOf_35 ?_
          exact r_iret C Z () (by clear C Z hl; unfold vN at hv; (repeat' split at hv) <;> first | omega | exact ⟨rfl, rfl⟩) rfl hQ d_Reader_valueOf_36
    · skip
      refine lv_iload_n C.1 C.2.1 d_Reader_valueOf_12 rfl (lv_at hl 0 rfl) ?_
      refine lv_bipush (v := nI 48) C.1 C.2.1 d_Reader_valueOf_13 (by decide) ?_
      refine r_sub C (by omega) d_Reader_valueOf_15 ?_
      exact r_iret C Z () (by clear C Z hl; unfold vN at hv; (repeat' split at hv) <;> first | omega | exact ⟨rfl, rfl⟩) rfl hQ d_Reader_valueOf_16

set_option maxHeartbeats 4000000 in
set_option maxRecDepth 100000 in
theorem c_Reader_finishNumber (l : Launch) (D : va_G) (cI cZ : ClassId) (rA : Nat) (st : Nat) (nm : Nat) (nu : Nat) (hnu : nu ≤ 256) : Mi l y_Reader_finishNumber b_Reader_finishNumber 1 (some .int) ({ frames := 1, cells := 0, slots := 0, locals := 21 } : Room) D cI cZ [.ref rA] [(rA, .inr (2, [.int (nI st), .int (nI nm), .int (nI nu)]))] (fun (r : Int32) (u : Nat) => r = nI ((rdFin nm nu).1) ∧ u = 0) (fun u : Nat => [(rA, .inr (2, [.int (nI u), .int (nI nm), .int (nI nu)]))]) := by
  refine Mi.intro (by decide) (Nat.le_of_ble_eq_true rfl) ?_
  intro p e s m args below meth cd A ls R Q hR hQ C Z hl
  have hl : lv_has ls 1 [(0, .ref rA)] := hl
  refine lv_aload_n C.1 C.2.1 d_Reader_finishNumber_0 rfl (lv_at hl 0 rfl) ?_
  refine lv_aload_n C.1 C.2.1 d_Reader_finishNumber_1 rfl (lv_at hl 0 rfl) ?_
  refine r_get C Z 0 f_Reader_18 rfl rfl d_Reader_finishNumber_2 ?_
  refine r_callSi (rest := [.ref rA]) (wr := [(rA, .inr (2, [.int (nI st), .int (nI nm), .int (nI nu)]))]) (wn := fun u => [(rA, .inr (2, [.int (nI st), .int (nI nm), .int (nI nu)]))]) C Z (c_Reader_mayBe l D cI cZ nu (by first | assumption | omega)) k_Reader_48 rfl ⟨by rw [hR]; decide, by rw [hR]; decide⟩ ⟨rfl, rfl⟩ [] [0] [0] (by decide) rfl rfl (by decide) (by decide) (by decide) (fun _ => rfl) hl.1 rfl (Nat.le_of_ble_eq_true rfl) d_Reader_finishNumber_5 ⟨Nat.zero_le _, Nat.zero_le _⟩ (fun r u H locs hp Z => ?_)
  obtain ⟨hp1, hp2⟩ := hp; have hp1 := hp1.symm; have hp2 := hp2.symm; subst hp1; subst hp2
  have Z : Wd D A s.heap [(rA, .inr (2, [.int (nI st), .int (nI nm), .int (nI nu)]))] H locs := Z
  have hm := mayN_le nu
  refine r_zeq (tgt := 15) C d_Reader_finishNumber_8 (by decide) (by omega) (fun h8 => ?_) (fun h8 => ?_)
  · skip
    refine lv_iconst (v := nI 4) C.1 C.2.1 d_Reader_finishNumber_15 (by decide) ?_
    refine r_callVi (rest := []) (wr := []) (wn := fun u => [(rA, .inr (2, [.int (nI u), .int (nI nm), .int (nI nu)]))]) C Z (c_Reader_finish l D cI cZ rA st nm nu 4) k_Reader_25 rfl ⟨by rw [hR]; decide, by rw [hR]; decide⟩ ⟨rfl, rfl⟩ [0] [] [0] (by decide) rfl rfl (by decide) (by decide) (by decide) (fun _ => rfl) 0 rfl rfl hl.1 rfl (Nat.le_of_ble_eq_true rfl) d_Reader_finishNumber_16 ⟨Nat.zero_le _, Nat.zero_le _⟩ (fun r u H locs hp Z => ?_)
    obtain ⟨hp1, hp2⟩ := hp; have hp1 := hp1.symm; have hp2 := hp2.symm; subst hp1; subst hp2
    have Z : Wd D A s.heap [(rA, .inr (2, [.int (nI 0), .int (nI nm), .int (nI nu)]))] H locs := Z
    exact r_iret C Z 0 ⟨by congr 1; unfold rdFin; have := mayN_le nu; first | rw [if_pos (by omega)] | rw [if_neg (by omega)], rfl⟩ rfl hQ d_Reader_finishNumber_19
  · skip
    refine lv_iconst (v := nI 2) C.1 C.2.1 d_Reader_finishNumber_11 (by decide) ?_
    refine lv_goto (tgt := 16) C.1 C.2.1 d_Reader_finishNumber_12 (by decide) ?_
    refine r_callVi (rest := []) (wr := []) (wn := fun u => [(rA, .inr (2, [.int (nI u), .int (nI nm), .int (nI nu)]))]) C Z (c_Reader_finish l D cI cZ rA st nm nu 2) k_Reader_25 rfl ⟨by rw [hR]; decide, by rw [hR]; decide⟩ ⟨rfl, rfl⟩ [0] [] [0] (by decide) rfl rfl (by decide) (by decide) (by decide) (fun _ => rfl) 0 rfl rfl hl.1 rfl (Nat.le_of_ble_eq_true rfl) d_Reader_finishNumber_16 ⟨Nat.zero_le _, Nat.zero_le _⟩ (fun r u H locs hp Z => ?_)
    obtain ⟨hp1, hp2⟩ := hp; have hp1 := hp1.symm; have hp2 := hp2.symm; subst hp1; subst hp2
    have Z : Wd D A s.heap [(rA, .inr (2, [.int (nI 0), .int (nI nm), .int (nI nu)]))] H locs := Z
    exact r_iret C Z 0 ⟨by congr 1; unfold rdFin; have := mayN_le nu; first | rw [if_pos (by omega)] | rw [if_neg (by omega)], rfl⟩ rfl hQ d_Reader_finishNumber_19

set_option maxHeartbeats 4000000 in
set_option maxRecDepth 100000 in
theorem c_Reader_readDigit (l : Launch) (D : va_G) (cI cZ : ClassId) (rA : Nat) (st : Nat) (nm : Nat) (nu : Nat) (c : Nat) (base : Nat) (x : Nat) (hc : c < 256) (hb : base ≤ 16) (hnu : nu ≤ 256) : Mi l y_Reader_readDigit b_Reader_readDigit 5 (some .int) ({ frames := 1, cells := 0, slots := 0, locals := 21 } : Room) D cI cZ [.ref rA, .int (nI c), .int (nI base), .int (nI x)] [(rA, .inr (2, [.int (nI st), .int (nI nm), .int (nI nu)]))] (fun (r : Int32) (u : Nat × Nat) => r = nI ((rdDig st nm nu c base x).1) ∧ u = ((rdDig st nm nu c base x).2.1, (rdDig st nm nu c base x).2.2.2)) (fun u : Nat × Nat => [(rA, .inr (2, [.int (nI u.1), .int (nI nm), .int (nI u.2)]))]) := by
  refine Mi.intro (by decide) (Nat.le_of_ble_eq_true rfl) ?_
  intro p e s m args below meth cd A ls R Q hR hQ C Z hl
  have hl : lv_has ls 5 [(0, .ref rA), (1, .int (nI c)), (2, .int (nI base)), (3, .int (nI x))] := hl
  have hv16 := vN_le c
  have hmul : nu * base ≤ 256 * 16 := Nat.mul_le_mul hnu hb
  obtain hv | ⟨v, hv⟩ : vN c = 0 ∨ ∃ v, vN c = v + 1 := by cases h : vN c with | zero => exact Or.inl rfl | succ v => exact Or.inr ⟨v, rfl⟩
  · skip
    refine lv_iload_n C.1 C.2.1 d_Reader_readDigit_0 rfl (lv_at hl 1 rfl) ?_
    refine r_callSi (rest := []) (wr := [(rA, .inr (2, [.int (nI st), .int (nI nm), .int (nI nu)]))]) (wn := fun u => [(rA, .inr (2, [.int (nI st), .int (nI nm), .int (nI nu)]))]) C Z (c_Reader_valueOf0 l D cI cZ c (by first | assumption | omega) (by first | assumption | omega)) k_Reader_39 rfl ⟨by rw [hR]; decide, by rw [hR]; decide⟩ ⟨rfl, rfl⟩ [] [0] [0] (by decide) rfl rfl (by decide) (by decide) (by decide) (fun _ => rfl) hl.1 rfl (Nat.le_of_ble_eq_true rfl) d_Reader_readDigit_1 ⟨Nat.zero_le _, Nat.zero_le _⟩ (fun r u H locs hp Z => ?_)
    obtain ⟨hp1, hp2⟩ := hp; have hp1 := hp1.symm; have hp2 := hp2.symm; subst hp1; subst hp2
    have Z : Wd D A s.heap [(rA, .inr (2, [.int (nI st), .int (nI nm), .int (nI nu)]))] H locs := Z
    refine lv_istore (lv' := [(4, .int (-1)), (0, .ref rA), (1, .int (nI c)), (2, .int (nI base)), (3, .int (nI x))]) C.1 C.2.1 d_Reader_readDigit_4 hl (by decide) rfl (fun ls hl => ?_)
    refine lv_iload C.1 C.2.1 d_Reader_readDigit_6 (lv_at hl 0 rfl) ?_
    refine lv_if_lt (tgt := 17) C.1 C.2.1 d_Reader_readDigit_8 (by decide) (fun h8 => ?_) (fun h8 => absurd h8 (by decide))
    refine lv_iconst (v := nI 5) C.1 C.2.1 d_Reader_readDigit_17 (by decide) ?_
    exact r_iret C Z (st, nu) (by clear C Z hl; unfold rdDig; first | rw [if_pos (by omega)]; exact ⟨rfl, rfl⟩ | rw [if_neg (by omega)]; (try rw [hv]); exact ⟨rfl, rfl⟩) rfl hQ d_Reader_readDigit_18
  · skip
    refine lv_iload_n C.1 C.2.1 d_Reader_readDigit_0 rfl (lv_at hl 1 rfl) ?_
    refine r_callSi (rest := []) (wr := [(rA, .inr (2, [.int (nI st), .int (nI nm), .int (nI nu)]))]) (wn := fun u => [(rA, .inr (2, [.int (nI st), .int (nI nm), .int (nI nu)]))]) C Z (c_Reader_valueOf l D cI cZ c v (by first | assumption | omega) (by first | assumption | omega)) k_Reader_39 rfl ⟨by rw [hR]; decide, by rw [hR]; decide⟩ ⟨rfl, rfl⟩ [] [0] [0] (by decide) rfl rfl (by decide) (by decide) (by decide) (fun _ => rfl) hl.1 rfl (Nat.le_of_ble_eq_true rfl) d_Reader_readDigit_1 ⟨Nat.zero_le _, Nat.zero_le _⟩ (fun r u H locs hp Z => ?_)
    obtain ⟨hp1, hp2⟩ := hp; have hp1 := hp1.symm; have hp2 := hp2.symm; subst hp1; subst hp2
    have Z : Wd D A s.heap [(rA, .inr (2, [.int (nI st), .int (nI nm), .int (nI nu)]))] H locs := Z
    refine lv_istore (lv' := [(4, .int (nI v)), (0, .ref rA), (1, .int (nI c)), (2, .int (nI base)), (3, .int (nI x))]) C.1 C.2.1 d_Reader_readDigit_4 hl (by decide) rfl (fun ls hl => ?_)
    refine lv_iload C.1 C.2.1 d_Reader_readDigit_6 (lv_at hl 0 rfl) ?_
    refine r_zlt (tgt := 17) C d_Reader_readDigit_8 (by decide) (by omega) ?_
    refine lv_iload C.1 C.2.1 d_Reader_readDigit_11 (lv_at hl 0 rfl) ?_
    refine lv_iload_n C.1 C.2.1 d_Reader_readDigit_13 rfl (lv_at hl 3 rfl) ?_
    refine r_lt (tgt := 19) C d_Reader_readDigit_14 (by decide) (by omega) (by omega) (fun h14 => ?_) (fun h14 => ?_)
    · skip
      refine lv_aload_n C.1 C.2.1 d_Reader_readDigit_19 rfl (lv_at hl 1 rfl) ?_
      refine lv_aload_n C.1 C.2.1 d_Reader_readDigit_20 rfl (lv_at hl 1 rfl) ?_
      refine r_get C Z 0 f_Reader_18 rfl rfl d_Reader_readDigit_21 ?_
      refine lv_iload_n C.1 C.2.1 d_Reader_readDigit_24 rfl (lv_at hl 3 rfl) ?_
      refine r_mul C d_Reader_readDigit_25 ?_
      refine lv_iload C.1 C.2.1 d_Reader_readDigit_26 (lv_at hl 0 rfl) ?_
      refine r_add C d_Reader_readDigit_28 ?_
      refine lv_sipush (v := nI 256) C.1 C.2.1 d_Reader_readDigit_29 (by decide) ?_
      refine r_mmin C k_Reader_42 hl.1 (by rw [hR]; decide) (by rw [hR]; exact Nat.le_of_ble_eq_true rfl) (Nat.zero_le _) (Nat.zero_le _) (by omega) (by omega) d_Reader_readDigit_32 ?_
      refine r_put (ws' := [(rA, .inr (2, [.int (nI st), .int (nI nm), .int (nI (min ((nu * base) + v) 256))]))]) C Z 0 f_Reader_18 rfl rfl rfl (Nat.le_of_ble_eq_true rfl) rfl d_Reader_readDigit_35 (fun H locs Z => ?_)
      refine lv_aload_n C.1 C.2.1 d_Reader_readDigit_38 rfl (lv_at hl 1 rfl) ?_
      refine lv_iload_n C.1 C.2.1 d_Reader_readDigit_39 rfl (lv_at hl 4 rfl) ?_
      refine r_callVi (rest := []) (wr := []) (wn := fun u => [(rA, .inr (2, [.int (nI u), .int (nI nm), .int (nI (min ((nu * base) + v) 256))]))]) C Z (c_Reader_goOn l D cI cZ rA st nm (min ((nu * base) + v) 256) x) k_Reader_28 rfl ⟨by rw [hR]; decide, by rw [hR]; decide⟩ ⟨rfl, rfl⟩ [0] [] [0] (by decide) rfl rfl (by decide) (by decide) (by decide) (fun _ => rfl) 0 rfl rfl hl.1 rfl (Nat.le_of_ble_eq_true rfl) d_Reader_readDigit_40 ⟨Nat.zero_le _, Nat.zero_le _⟩ (fun r u H locs hp Z => ?_)
      obtain ⟨hp1, hp2⟩ := hp; have hp1 := hp1.symm; have hp2 := hp2.symm; subst hp1; subst hp2
      have Z : Wd D A s.heap [(rA, .inr (2, [.int (nI x), .int (nI nm), .int (nI (min ((nu * base) + v) 256))]))] H locs := Z
      exact r_iret C Z (x, min ((nu * base) + v) 256) (by clear C Z hl; unfold rdDig; first | rw [if_pos (by omega)]; exact ⟨rfl, rfl⟩ | rw [if_neg (by omega)]; (try rw [hv]); exact ⟨rfl, rfl⟩) rfl hQ d_Reader_readDigit_43
    · skip
      refine lv_iconst (v := nI 5) C.1 C.2.1 d_Reader_readDigit_17 (by decide) ?_
      exact r_iret C Z (st, nu) (by clear C Z hl; unfold rdDig; first | rw [if_pos (by omega)]; exact ⟨rfl, rfl⟩ | rw [if_neg (by omega)]; (try rw [hv]); exact ⟨rfl, rfl⟩) rfl hQ d_Reader_readDigit_18

set_option maxHeartbeats 4000000 in
set_option maxRecDepth 100000 in
theorem c_Reader_readBehindAmpersand (l : Launch) (D : va_G) (cI cZ : ClassId) (rA : Nat) (st : Nat) (nm : Nat) (nu : Nat) (c : Nat) (hc : c < 256) : Mi l y_Reader_readBehindAmpersand b_Reader_readBehindAmpersand 2 (some .int) ({ frames := 1, cells := 0, slots := 0, locals := 21 } : Room) D cI cZ [.ref rA, .int (nI c)] [(rA, .inr (2, [.int (nI st), .int (nI nm), .int (nI nu)]))] (fun (r : Int32) (u : Nat × Nat × Nat) => r = nI ((rdAmp st nm nu c).1) ∧ u = ((rdAmp st nm nu c).2.1, (rdAmp st nm nu c).2.2.1, (rdAmp st nm nu c).2.2.2)) (fun u : Nat × Nat × Nat => [(rA, .inr (2, [.int (nI u.1), .int (nI u.2.1), .int (nI u.2.2)]))]) := by
  refine Mi.intro (by decide) (Nat.le_of_ble_eq_true rfl) ?_
  intro p e s m args below meth cd A ls R Q hR hQ C Z hl
  have hl : lv_has ls 2 [(0, .ref rA), (1, .int (nI c))] := hl
  refine lv_iload_n C.1 C.2.1 d_Reader_readBehindAmpersand_0 rfl (lv_at hl 1 rfl) ?_
  refine lv_bipush (v := nI 35) C.1 C.2.1 d_Reader_readBehindAmpersand_1 (by decide) ?_
  refine r_ne (tgt := 17) C d_Reader_readBehindAmpersand_3 (by decide) (by omega) (by omega) (fun h3 => ?_) (fun h3 => ?_)
  · skip
    refine lv_iload_n C.1 C.2.1 d_Reader_readBehindAmpersand_17 rfl (lv_at hl 1 rfl) ?_
    refine lv_bipush (v := nI 97) C.1 C.2.1 d_Reader_readBehindAmpersand_18 (by decide) ?_
    refine r_lt (tgt := 43) C d_Reader_readBehindAmpersand_20 (by decide) (by omega) (by omega) (fun h20 => ?_) (fun h20 => ?_)
    · skip
      refine lv_iconst (v := nI 5) C.1 C.2.1 d_Reader_readBehindAmpersand_43 (by decide) ?_
      exact r_iret C Z (st, nm, nu) (by clear C Z hl; unfold rdAmp; (repeat' split) <;> first | exact ⟨rfl, rfl⟩ | omega) rfl hQ d_Reader_readBehindAmpersand_44
    · skip
      refine lv_iload_n C.1 C.2.1 d_Reader_readBehindAmpersand_23 rfl (lv_at hl 1 rfl) ?_
      refine lv_bipush (v := nI 122) C.1 C.2.1 d_Reader_readBehindAmpersand_24 (by decide) ?_
      refine r_gt (tgt := 43) C d_Reader_readBehindAmpersand_26 (by decide) (by omega) (by omega) (fun h26 => ?_) (fun h26 => ?_)
      · skip
        refine lv_iconst (v := nI 5) C.1 C.2.1 d_Reader_readBehindAmpersand_43 (by decide) ?_
        exact r_iret C Z (st, nm, nu) (by clear C Z hl; unfold rdAmp; (repeat' split) <;> first | exact ⟨rfl, rfl⟩ | omega) rfl hQ d_Reader_readBehindAmpersand_44
      · skip
        refine lv_aload_n C.1 C.2.1 d_Reader_readBehindAmpersand_29 rfl (lv_at hl 0 rfl) ?_
        refine lv_iload_n C.1 C.2.1 d_Reader_readBehindAmpersand_30 rfl (lv_at hl 1 rfl) ?_
        refine lv_bipush (v := nI 97) C.1 C.2.1 d_Reader_readBehindAmpersand_31 (by decide) ?_
        refine r_sub C (by omega) d_Reader_readBehindAmpersand_33 ?_
        refine r_put (ws' := [(rA, .inr (2, [.int (nI st), .int (nI (c - 97)), .int (nI nu)]))]) C Z 0 f_Reader_15 rfl rfl rfl (Nat.le_of_ble_eq_true rfl) rfl d_Reader_readBehindAmpersand_34 (fun H locs Z => ?_)
        refine lv_aload_n C.1 C.2.1 d_Reader_readBehindAmpersand_37 rfl (lv_at hl 0 rfl) ?_
        refine lv_iconst (v := nI 2) C.1 C.2.1 d_Reader_readBehindAmpersand_38 (by decide) ?_
        refine r_callVi (rest := []) (wr := []) (wn := fun u => [(rA, .inr (2, [.int (nI u), .int (nI (c - 97)), .int (nI nu)]))]) C Z (c_Reader_goOn l D cI cZ rA st (c - 97) nu 2) k_Reader_28 rfl ⟨by rw [hR]; decide, by rw [hR]; decide⟩ ⟨rfl, rfl⟩ [0] [] [0] (by decide) rfl rfl (by decide) (by decide) (by decide) (fun _ => rfl) 0 rfl rfl hl.1 rfl (Nat.le_of_ble_eq_true rfl) d_Reader_readBehindAmpersand_39 ⟨Nat.zero_le _, Nat.zero_le _⟩ (fun r u H locs hp Z => ?_)
        obtain ⟨hp1, hp2⟩ := hp; have hp1 := hp1.symm; have hp2 := hp2.symm; subst hp1; subst hp2
        have Z : Wd D A s.heap [(rA, .inr (2, [.int (nI 2), .int (nI (c - 97)), .int (nI nu)]))] H locs := Z
        exact r_iret C Z (2, c - 97, nu) (by clear C Z hl; unfold rdAmp; (repeat' split) <;> first | exact ⟨rfl, rfl⟩ | omega) rfl hQ d_Reader_readBehindAmpersand_42
  · skip
    refine lv_aload_n C.1 C.2.1 d_Reader_readBehindAmpersand_6 rfl (lv_at hl 0 rfl) ?_
    refine lv_iconst (v := nI 0) C.1 C.2.1 d_Reader_readBehindAmpersand_7 (by decide) ?_
    refine r_put (ws' := [(rA, .inr (2, [.int (nI st), .int (nI nm), .int (nI 0)]))]) C Z 0 f_Reader_18 rfl rfl rfl (Nat.le_of_ble_eq_true rfl) rfl d_Reader_readBehindAmpersand_8 (fun H locs Z => ?_)
    refine lv_aload_n C.1 C.2.1 d_Reader_readBehindAmpersand_11 rfl (lv_at hl 0 rfl) ?_
    refine lv_iconst (v := nI 3) C.1 C.2.1 d_Reader_readBehindAmpersand_12 (by decide) ?_
    refine r_callVi (rest := []) (wr := []) (wn := fun u => [(rA, .inr (2, [.int (nI u), .int (nI nm), .int (nI 0)]))]) C Z (c_Reader_goOn l D cI cZ rA st nm 0 3) k_Reader_28 rfl ⟨by rw [hR]; decide, by rw [hR]; decide⟩ ⟨rfl, rfl⟩ [0] [] [0] (by decide) rfl rfl (by decide) (by decide) (by decide) (fun _ => rfl) 0 rfl rfl hl.1 rfl (Nat.le_of_ble_eq_true rfl) d_Reader_readBehindAmpersand_13 ⟨Nat.zero_le _, Nat.zero_le _⟩ (fun r u H locs hp Z => ?_)
    obtain ⟨hp1, hp2⟩ := hp; have hp1 := hp1.symm; have hp2 := hp2.symm; subst hp1; subst hp2
    have Z : Wd D A s.heap [(rA, .inr (2, [.int (nI 3), .int (nI nm), .int (nI 0)]))] H locs := Z
    exact r_iret C Z (3, nm, 0) (by clear C Z hl; unfold rdAmp; (repeat' split) <;> first | exact ⟨rfl, rfl⟩ | omega) rfl hQ d_Reader_readBehindAmpersand_16

set_option maxHeartbeats 4000000 in
set_option maxRecDepth 100000 in
theorem c_Reader_read (l : Launch) (D : va_G) (cI cZ : ClassId) (rA : Nat) (st : Nat) (nm : Nat) (nu : Nat) (c : Nat) (hst : st ≤ 6) (hc : c < 256) (hnu : nu ≤ 256) : Mi l y_Reader_read b_Reader_read 2 (some .int) ({ frames := 2, cells := 0, slots := 0, locals := 45 } : Room) D cI cZ [.ref rA, .int (nI c)] [(rA, .inr (2, [.int (nI st), .int (nI nm), .int (nI nu)]))] (fun (r : Int32) (u : Nat × Nat × Nat) => r = nI ((rdP st nm nu c).1) ∧ u = ((rdP st nm nu c).2.1, (rdP st nm nu c).2.2.1, (rdP st nm nu c).2.2.2)) (fun u : Nat × Nat × Nat => [(rA, .inr (2, [.int (nI u.1), .int (nI u.2.1), .int (nI u.2.2)]))]) := by
  refine Mi.intro (by decide) (Nat.le_of_ble_eq_true rfl) ?_
  intro p e s m args below meth cd A ls R Q hR hQ C Z hl
  have hl : lv_has ls 2 [(0, .ref rA), (1, .int (nI c))] := hl
  obtain rfl | rfl | rfl | rfl | rfl | rfl | rfl : st = 0 ∨ st = 1 ∨ st = 2 ∨ st = 3 ∨ st = 4 ∨ st = 5 ∨ st = 6 := by omega
  · skip
    have hl : lv_has ls 2 [(0, .ref rA), (1, .int (nI c))] := hl
    refine lv_aload_n C.1 C.2.1 d_Reader_read_0 rfl (lv_at hl 0 rfl) ?_
    refine r_get C Z 0 f_Reader_11 rfl rfl d_Reader_read_1 ?_
    refine lv_tableOut (tgt := 144) C.1 C.2.1 d_Reader_read_4 (by decide) (by decide) ?_
    refine lv_iload_n C.1 C.2.1 d_Reader_read_144 rfl (lv_at hl 1 rfl) ?_
    refine lv_bipush (v := nI 38) C.1 C.2.1 d_Reader_read_145 (by decide) ?_
    refine r_ne (tgt := 158) C d_Reader_read_147 (by decide) (by omega) (by omega) (fun h147 => ?_) (fun h147 => ?_)
    · skip
      refine lv_iconst (v := nI 0) C.1 C.2.1 d_Reader_read_158 (by decide) ?_
      exact r_iret C Z (0, nm, nu) (by clear C Z hl; rw [rdP_0]; first | exact ⟨rfl, rfl⟩ | exact ⟨rfl, by rw [rdDig_nm]⟩ | (rw [if_pos (by omega)]; first | exact ⟨rfl, rfl⟩ | exact ⟨rfl, by rw [rdDig_nm]⟩) | (rw [if_neg (by omega)]; first | exact ⟨rfl, rfl⟩ | exact ⟨rfl, by rw [rdDig_nm]⟩)) rfl hQ d_Reader_read_159
    · skip
      refine lv_aload_n C.1 C.2.1 d_Reader_read_150 rfl (lv_at hl 0 rfl) ?_
      refine lv_iconst (v := nI 1) C.1 C.2.1 d_Reader_read_151 (by decide) ?_
      refine r_callVi (rest := []) (wr := []) (wn := fun u => [(rA, .inr (2, [.int (nI u), .int (nI nm), .int (nI nu)]))]) C Z (c_Reader_goOn l D cI cZ rA 0 nm nu 1) k_Reader_28 rfl ⟨by rw [hR]; decide, by rw [hR]; decide⟩ ⟨rfl, rfl⟩ [0] [] [0] (by decide) rfl rfl (by decide) (by decide) (by decide) (fun _ => rfl) 0 rfl rfl hl.1 rfl (Nat.le_of_ble_eq_true rfl) d_Reader_read_152 ⟨Nat.zero_le _, Nat.zero_le _⟩ (fun r u H locs hp Z => ?_)
      obtain ⟨hp1, hp2⟩ := hp; have hp1 := hp1.symm; have hp2 := hp2.symm; subst hp1; subst hp2
      have Z : Wd D A s.heap [(rA, .inr (2, [.int (nI 1), .int (nI nm), .int (nI nu)]))] H locs := Z
      refine lv_goto (tgt := 159) C.1 C.2.1 d_Reader_read_155 (by decide) ?_
      exact r_iret C Z (1, nm, nu) (by clear C Z hl; rw [rdP_0]; first | exact ⟨rfl, rfl⟩ | exact ⟨rfl, by rw [rdDig_nm]⟩ | (rw [if_pos (by omega)]; first | exact ⟨rfl, rfl⟩ | exact ⟨rfl, by rw [rdDig_nm]⟩) | (rw [if_neg (by omega)]; first | exact ⟨rfl, rfl⟩ | exact ⟨rfl, by rw [rdDig_nm]⟩)) rfl hQ d_Reader_read_159
  · skip
    have hl : lv_has ls 2 [(0, .ref rA), (1, .int (nI c))] := hl
    refine lv_aload_n C.1 C.2.1 d_Reader_read_0 rfl (lv_at hl 0 rfl) ?_
    refine r_get C Z 0 f_Reader_11 rfl rfl d_Reader_read_1 ?_
    refine lv_tableIn (tgt := 44) (off := 40) C.1 C.2.1 d_Reader_read_4 (by decide) (by decide) (by decide) (by decide) ?_
    refine lv_aload_n C.1 C.2.1 d_Reader_read_44 rfl (lv_at hl 0 rfl) ?_
    refine lv_iload_n C.1 C.2.1 d_Reader_read_45 rfl (lv_at hl 1 rfl) ?_
    refine r_callVi (rest := []) (wr := []) (wn := fun u => [(rA, .inr (2, [.int (nI u.1), .int (nI u.2.1), .int (nI u.2.2)]))]) C Z (c_Reader_readBehindAmpersand l D cI cZ rA 1 nm nu c (by first | assumption | omega)) k_Reader_21 rfl ⟨by rw [hR]; decide, by rw [hR]; decide⟩ ⟨rfl, rfl⟩ [0] [] [0] (by decide) rfl rfl (by decide) (by decide) (by decide) (fun _ => rfl) 0 rfl rfl hl.1 rfl (Nat.le_of_ble_eq_true rfl) d_Reader_read_46 ⟨Nat.zero_le _, Nat.zero_le _⟩ (fun r u H locs hp Z => ?_)
    obtain ⟨hp1, hp2⟩ := hp; have hp1 := hp1.symm; have hp2 := hp2.symm; subst hp1; subst hp2
    have Z : Wd D A s.heap [(rA, .inr (2, [.int (nI ((rdAmp 1 nm nu c).2.1)), .int (nI ((rdAmp 1 nm nu c).2.2.1)), .int (nI ((rdAmp 1 nm nu c).2.2.2))]))] H locs := Z
    exact r_iret C Z ((rdAmp 1 nm nu c).2.1, (rdAmp 1 nm nu c).2.2.1, (rdAmp 1 nm nu c).2.2.2) (by clear C Z hl; rw [rdP_1]; first | exact ⟨rfl, rfl⟩ | exact ⟨rfl, by rw [rdDig_nm]⟩ | (rw [if_pos (by omega)]; first | exact ⟨rfl, rfl⟩ | exact ⟨rfl, by rw [rdDig_nm]⟩) | (rw [if_neg (by omega)]; first | exact ⟨rfl, rfl⟩ | exact ⟨rfl, by rw [rdDig_nm]⟩)) rfl hQ d_Reader_read_49
  · skip
    have hl : lv_has ls 2 [(0, .ref rA), (1, .int (nI c))] := hl
    refine lv_aload_n C.1 C.2.1 d_Reader_read_0 rfl (lv_at hl 0 rfl) ?_
    refine r_get C Z 0 f_Reader_11 rfl rfl d_Reader_read_1 ?_
    refine lv_tableIn (tgt := 50) (off := 46) C.1 C.2.1 d_Reader_read_4 (by decide) (by decide) (by decide) (by decide) ?_
    refine lv_iload_n C.1 C.2.1 d_Reader_read_50 rfl (lv_at hl 1 rfl) ?_
    refine lv_bipush (v := nI 59) C.1 C.2.1 d_Reader_read_51 (by decide) ?_
    refine r_ne (tgt := 64) C d_Reader_read_53 (by decide) (by omega) (by omega) (fun h53 => ?_) (fun h53 => ?_)
    · skip
      refine lv_iconst (v := nI 5) C.1 C.2.1 d_Reader_read_64 (by decide) ?_
      exact r_iret C Z (2, nm, nu) (by clear C Z hl; rw [rdP_2]; first | exact ⟨rfl, rfl⟩ | exact ⟨rfl, by rw [rdDig_nm]⟩ | (rw [if_pos (by omega)]; first | exact ⟨rfl, rfl⟩ | exact ⟨rfl, by rw [rdDig_nm]⟩) | (rw [if_neg (by omega)]; first | exact ⟨rfl, rfl⟩ | exact ⟨rfl, by rw [rdDig_nm]⟩)) rfl hQ d_Reader_read_65
    · skip
      refine lv_aload_n C.1 C.2.1 d_Reader_read_56 rfl (lv_at hl 0 rfl) ?_
      refine lv_iconst (v := nI 3) C.1 C.2.1 d_Reader_read_57 (by decide) ?_
      refine r_callVi (rest := []) (wr := []) (wn := fun u => [(rA, .inr (2, [.int (nI u), .int (nI nm), .int (nI nu)]))]) C Z (c_Reader_finish l D cI cZ rA 2 nm nu 3) k_Reader_25 rfl ⟨by rw [hR]; decide, by rw [hR]; decide⟩ ⟨rfl, rfl⟩ [0] [] [0] (by decide) rfl rfl (by decide) (by decide) (by decide) (fun _ => rfl) 0 rfl rfl hl.1 rfl (Nat.le_of_ble_eq_true rfl) d_Reader_read_58 ⟨Nat.zero_le _, Nat.zero_le _⟩ (fun r u H locs hp Z => ?_)
      obtain ⟨hp1, hp2⟩ := hp; have hp1 := hp1.symm; have hp2 := hp2.symm; subst hp1; subst hp2
      have Z : Wd D A s.heap [(rA, .inr (2, [.int (nI 0), .int (nI nm), .int (nI nu)]))] H locs := Z
      refine lv_goto (tgt := 65) C.1 C.2.1 d_Reader_read_61 (by decide) ?_
      exact r_iret C Z (0, nm, nu) (by clear C Z hl; rw [rdP_2]; first | exact ⟨rfl, rfl⟩ | exact ⟨rfl, by rw [rdDig_nm]⟩ | (rw [if_pos (by omega)]; first | exact ⟨rfl, rfl⟩ | exact ⟨rfl, by rw [rdDig_nm]⟩) | (rw [if_neg (by omega)]; first | exact ⟨rfl, rfl⟩ | exact ⟨rfl, by rw [rdDig_nm]⟩)) rfl hQ d_Reader_read_65
  · skip
    have hl : lv_has ls 2 [(0, .ref rA), (1, .int (nI c))] := hl
    refine lv_aload_n C.1 C.2.1 d_Reader_read_0 rfl (lv_at hl 0 rfl) ?_
    refine r_get C Z 0 f_Reader_11 rfl rfl d_Reader_read_1 ?_
    refine lv_tableIn (tgt := 66) (off := 62) C.1 C.2.1 d_Reader_read_4 (by decide) (by decide) (by decide) (by decide) ?_
    refine lv_iload_n C.1 C.2.1 d_Reader_read_66 rfl (lv_at hl 1 rfl) ?_
    refine lv_bipush (v := nI 120) C.1 C.2.1 d_Reader_read_67 (by decide) ?_
    refine r_ne (tgt := 80) C d_Reader_read_69 (by decide) (by omega) (by omega) (fun h69 => ?_) (fun h69 => ?_)
    · skip
      refine lv_aload_n C.1 C.2.1 d_Reader_read_80 rfl (lv_at hl 0 rfl) ?_
      refine lv_iload_n C.1 C.2.1 d_Reader_read_81 rfl (lv_at hl 1 rfl) ?_
      refine lv_bipush (v := nI 10) C.1 C.2.1 d_Reader_read_82 (by decide) ?_
      refine lv_iconst (v := nI 4) C.1 C.2.1 d_Reader_read_84 (by decide) ?_
      refine r_callVi (rest := []) (wr := []) (wn := fun u => [(rA, .inr (2, [.int (nI u.1), .int (nI nm), .int (nI u.2)]))]) C Z (c_Reader_readDigit l D cI cZ rA 3 nm nu c 10 4 (by first | assumption | omega) (by first | assumption | omega) (by first | assumption | omega)) k_Reader_31 rfl ⟨by rw [hR]; decide, by rw [hR]; decide⟩ ⟨rfl, rfl⟩ [0] [] [0] (by decide) rfl rfl (by decide) (by decide) (by decide) (fun _ => rfl) 0 rfl rfl hl.1 rfl (Nat.le_of_ble_eq_true rfl) d_Reader_read_85 ⟨Nat.zero_le _, Nat.zero_le _⟩ (fun r u H locs hp Z => ?_)
      obtain ⟨hp1, hp2⟩ := hp; have hp1 := hp1.symm; have hp2 := hp2.symm; subst hp1; subst hp2
      have Z : Wd D A s.heap [(rA, .inr (2, [.int (nI ((rdDig 3 nm nu c 10 4).2.1)), .int (nI nm), .int (nI ((rdDig 3 nm nu c 10 4).2.2.2))]))] H locs := Z
      exact r_iret C Z ((rdDig 3 nm nu c 10 4).2.1, nm, (rdDig 3 nm nu c 10 4).2.2.2) (by clear C Z hl; rw [rdP_3]; first | exact ⟨rfl, rfl⟩ | exact ⟨rfl, by rw [rdDig_nm]⟩ | (rw [if_pos (by omega)]; first | exact ⟨rfl, rfl⟩ | exact ⟨rfl, by rw [rdDig_nm]⟩) | (rw [if_neg (by omega)]; first | exact ⟨rfl, rfl⟩ | exact ⟨rfl, by rw [rdDig_nm]⟩)) rfl hQ d_Reader_read_88
    · skip
      refine lv_aload_n C.1 C.2.1 d_Reader_read_72 rfl (lv_at hl 0 rfl) ?_
      refine lv_iconst (v := nI 5) C.1 C.2.1 d_Reader_read_73 (by decide) ?_
      refine r_callVi (rest := []) (wr := []) (wn := fun u => [(rA, .inr (2, [.int (nI u), .int (nI nm), .int (nI nu)]))]) C Z (c_Reader_goOn l D cI cZ rA 3 nm nu 5) k_Reader_28 rfl ⟨by rw [hR]; decide, by rw [hR]; decide⟩ ⟨rfl, rfl⟩ [0] [] [0] (by decide) rfl rfl (by decide) (by decide) (by decide) (fun _ => rfl) 0 rfl rfl hl.1 rfl (Nat.le_of_ble_eq_true rfl) d_Reader_read_74 ⟨Nat.zero_le _, Nat.zero_le _⟩ (fun r u H locs hp Z => ?_)
      obtain ⟨hp1, hp2⟩ := hp; have hp1 := hp1.symm; have hp2 := hp2.symm; subst hp1; subst hp2
      have Z : Wd D A s.heap [(rA, .inr (2, [.int (nI 5), .int (nI nm), .int (nI nu)]))] H locs := Z
      refine lv_goto (tgt := 88) C.1 C.2.1 d_Reader_read_77 (by decide) ?_
      exact r_iret C Z (5, nm, nu) (by clear C Z hl; rw [rdP_3]; first | exact ⟨rfl, rfl⟩ | exact ⟨rfl, by rw [rdDig_nm]⟩ | (rw [if_pos (by omega)]; first | exact ⟨rfl, rfl⟩ | exact ⟨rfl, by rw [rdDig_nm]⟩) | (rw [if_neg (by omega)]; first | exact ⟨rfl, rfl⟩ | exact ⟨rfl, by rw [rdDig_nm]⟩)) rfl hQ d_Reader_read_88
  · skip
    have hl : lv_has ls 2 [(0, .ref rA), (1, .int (nI c))] := hl
    refine lv_aload_n C.1 C.2.1 d_Reader_read_0 rfl (lv_at hl 0 rfl) ?_
    refine r_get C Z 0 f_Reader_11 rfl rfl d_Reader_read_1 ?_
    refine lv_tableIn (tgt := 89) (off := 85) C.1 C.2.1 d_Reader_read_4 (by decide) (by decide) (by decide) (by decide) ?_
    refine lv_iload_n C.1 C.2.1 d_Reader_read_89 rfl (lv_at hl 1 rfl) ?_
    refine lv_bipush (v := nI 59) C.1 C.2.1 d_Reader_read_90 (by decide) ?_
    refine r_ne (tgt := 102) C d_Reader_read_92 (by decide) (by omega) (by omega) (fun h92 => ?_) (fun h92 => ?_)
    · skip
      refine lv_aload_n C.1 C.2.1 d_Reader_read_102 rfl (lv_at hl 0 rfl) ?_
      refine lv_iload_n C.1 C.2.1 d_Reader_read_103 rfl (lv_at hl 1 rfl) ?_
      refine lv_bipush (v := nI 10) C.1 C.2.1 d_Reader_read_104 (by decide) ?_
      refine lv_iconst (v := nI 4) C.1 C.2.1 d_Reader_read_106 (by decide) ?_
      refine r_callVi (rest := []) (wr := []) (wn := fun u => [(rA, .inr (2, [.int (nI u.1), .int (nI nm), .int (nI u.2)]))]) C Z (c_Reader_readDigit l D cI cZ rA 4 nm nu c 10 4 (by first | assumption | omega) (by first | assumption | omega) (by first | assumption | omega)) k_Reader_31 rfl ⟨by rw [hR]; decide, by rw [hR]; decide⟩ ⟨rfl, rfl⟩ [0] [] [0] (by decide) rfl rfl (by decide) (by decide) (by decide) (fun _ => rfl) 0 rfl rfl hl.1 rfl (Nat.le_of_ble_eq_true rfl) d_Reader_read_107 ⟨Nat.zero_le _, Nat.zero_le _⟩ (fun r u H locs hp Z => ?_)
      obtain ⟨hp1, hp2⟩ := hp; have hp1 := hp1.symm; have hp2 := hp2.symm; subst hp1; subst hp2
      have Z : Wd D A s.heap [(rA, .inr (2, [.int (nI ((rdDig 4 nm nu c 10 4).2.1)), .int (nI nm), .int (nI ((rdDig 4 nm nu c 10 4).2.2.2))]))] H locs := Z
      exact r_iret C Z ((rdDig 4 nm nu c 10 4).2.1, nm, (rdDig 4 nm nu c 10 4).2.2.2) (by clear C Z hl; rw [rdP_4]; first | exact ⟨rfl, rfl⟩ | exact ⟨rfl, by rw [rdDig_nm]⟩ | (rw [if_pos (by omega)]; first | exact ⟨rfl, rfl⟩ | exact ⟨rfl, by rw [rdDig_nm]⟩) | (rw [if_neg (by omega)]; first | exact ⟨rfl, rfl⟩ | exact ⟨rfl, by rw [rdDig_nm]⟩)) rfl hQ d_Reader_read_110
    · skip
      refine lv_aload_n C.1 C.2.1 d_Reader_read_95 rfl (lv_at hl 0 rfl) ?_
      refine r_callVi (rest := []) (wr := []) (wn := fun u => [(rA, .inr (2, [.int (nI u), .int (nI nm), .int (nI nu)]))]) C Z (c_Reader_finishNumber l D cI cZ rA 4 nm nu (by first | assumption | omega)) k_Reader_35 rfl ⟨by rw [hR]; decide, by rw [hR]; decide⟩ ⟨rfl, rfl⟩ [0] [] [0] (by decide) rfl rfl (by decide) (by decide) (by decide) (fun _ => rfl) 0 rfl rfl hl.1 rfl (Nat.le_of_ble_eq_true rfl) d_Reader_read_96 ⟨Nat.zero_le _, Nat.zero_le _⟩ (fun r u H locs hp Z => ?_)
      obtain ⟨hp1, hp2⟩ := hp; have hp1 := hp1.symm; have hp2 := hp2.symm; subst hp1; subst hp2
      have Z : Wd D A s.heap [(rA, .inr (2, [.int (nI 0), .int (nI nm), .int (nI nu)]))] H locs := Z
      refine lv_goto (tgt := 110) C.1 C.2.1 d_Reader_read_99 (by decide) ?_
      exact r_iret C Z (0, nm, nu) (by clear C Z hl; rw [rdP_4]; first | exact ⟨rfl, rfl⟩ | exact ⟨rfl, by rw [rdDig_nm]⟩ | (rw [if_pos (by omega)]; first | exact ⟨rfl, rfl⟩ | exact ⟨rfl, by rw [rdDig_nm]⟩) | (rw [if_neg (by omega)]; first | exact ⟨rfl, rfl⟩ | exact ⟨rfl, by rw [rdDig_nm]⟩)) rfl hQ d_Reader_read_110
  · skip
    have hl : lv_has ls 2 [(0, .ref rA), (1, .int (nI c))] := hl
    refine lv_aload_n C.1 C.2.1 d_Reader_read_0 rfl (lv_at hl 0 rfl) ?_
    refine r_get C Z 0 f_Reader_11 rfl rfl d_Reader_read_1 ?_
    refine lv_tableIn (tgt := 111) (off := 107) C.1 C.2.1 d_Reader_read_4 (by decide) (by decide) (by decide) (by decide) ?_
    refine lv_aload_n C.1 C.2.1 d_Reader_read_111 rfl (lv_at hl 0 rfl) ?_
    refine lv_iload_n C.1 C.2.1 d_Reader_read_112 rfl (lv_at hl 1 rfl) ?_
    refine lv_bipush (v := nI 16) C.1 C.2.1 d_Reader_read_113 (by decide) ?_
    refine lv_bipush (v := nI 6) C.1 C.2.1 d_Reader_read_115 (by decide) ?_
    refine r_callVi (rest := []) (wr := []) (wn := fun u => [(rA, .inr (2, [.int (nI u.1), .int (nI nm), .int (nI u.2)]))]) C Z (c_Reader_readDigit l D cI cZ rA 5 nm nu c 16 6 (by first | assumption | omega) (by first | assumption | omega) (by first | assumption | omega)) k_Reader_31 rfl ⟨by rw [hR]; decide, by rw [hR]; decide⟩ ⟨rfl, rfl⟩ [0] [] [0] (by decide) rfl rfl (by decide) (by decide) (by decide) (fun _ => rfl) 0 rfl rfl hl.1 rfl (Nat.le_of_ble_eq_true rfl) d_Reader_read_117 ⟨Nat.zero_le _, Nat.zero_le _⟩ (fun r u H locs hp Z => ?_)
    obtain ⟨hp1, hp2⟩ := hp; have hp1 := hp1.symm; have hp2 := hp2.symm; subst hp1; subst hp2
    have Z : Wd D A s.heap [(rA, .inr (2, [.int (nI ((rdDig 5 nm nu c 16 6).2.1)), .int (nI nm), .int (nI ((rdDig 5 nm nu c 16 6).2.2.2))]))] H locs := Z
    exact r_iret C Z ((rdDig 5 nm nu c 16 6).2.1, nm, (rdDig 5 nm nu c 16 6).2.2.2) (by clear C Z hl; rw [rdP_5]; first | exact ⟨rfl, rfl⟩ | exact ⟨rfl, by rw [rdDig_nm]⟩ | (rw [if_pos (by omega)]; first | exact ⟨rfl, rfl⟩ | exact ⟨rfl, by rw [rdDig_nm]⟩) | (rw [if_neg (by omega)]; first | exact ⟨rfl, rfl⟩ | exact ⟨rfl, by rw [rdDig_nm]⟩)) rfl hQ d_Reader_read_120
  · skip
    have hl : lv_has ls 2 [(0, .ref rA), (1, .int (nI c))] := hl
    refine lv_aload_n C.1 C.2.1 d_Reader_read_0 rfl (lv_at hl 0 rfl) ?_
    refine r_get C Z 0 f_Reader_11 rfl rfl d_Reader_read_1 ?_
    refine lv_tableIn (tgt := 121) (off := 117) C.1 C.2.1 d_Reader_read_4 (by decide) (by decide) (by decide) (by decide) ?_
    refine lv_iload_n C.1 C.2.1 d_Reader_read_121 rfl (lv_at hl 1 rfl) ?_
    refine lv_bipush (v := nI 59) C.1 C.2.1 d_Reader_read_122 (by decide) ?_
    refine r_ne (tgt := 134) C d_Reader_read_124 (by decide) (by omega) (by omega) (fun h124 => ?_) (fun h124 => ?_)
    · skip
      refine lv_aload_n C.1 C.2.1 d_Reader_read_134 rfl (lv_at hl 0 rfl) ?_
      refine lv_iload_n C.1 C.2.1 d_Reader_read_135 rfl (lv_at hl 1 rfl) ?_
      refine lv_bipush (v := nI 16) C.1 C.2.1 d_Reader_read_136 (by decide) ?_
      refine lv_bipush (v := nI 6) C.1 C.2.1 d_Reader_read_138 (by decide) ?_
      refine r_callVi (rest := []) (wr := []) (wn := fun u => [(rA, .inr (2, [.int (nI u.1), .int (nI nm), .int (nI u.2)]))]) C Z (c_Reader_readDigit l D cI cZ rA 6 nm nu c 16 6 (by first | assumption | omega) (by first | assumption | omega) (by first | assumption | omega)) k_Reader_31 rfl ⟨by rw [hR]; decide, by rw [hR]; decide⟩ ⟨rfl, rfl⟩ [0] [] [0] (by decide) rfl rfl (by decide) (by decide) (by decide) (fun _ => rfl) 0 rfl rfl hl.1 rfl (Nat.le_of_ble_eq_true rfl) d_Reader_read_140 ⟨Nat.zero_le _, Nat.zero_le _⟩ (fun r u H locs hp Z => ?_)
      obtain ⟨hp1, hp2⟩ := hp; have hp1 := hp1.symm; have hp2 := hp2.symm; subst hp1; subst hp2
      have Z : Wd D A s.heap [(rA, .inr (2, [.int (nI ((rdDig 6 nm nu c 16 6).2.1)), .int (nI nm), .int (nI ((rdDig 6 nm nu c 16 6).2.2.2))]))] H locs := Z
      exact r_iret C Z ((rdDig 6 nm nu c 16 6).2.1, nm, (rdDig 6 nm nu c 16 6).2.2.2) (by clear C Z hl; rw [rdP_6]; first | exact ⟨rfl, rfl⟩ | exact ⟨rfl, by rw [rdDig_nm]⟩ | (rw [if_pos (by omega)]; first | exact ⟨rfl, rfl⟩ | exact ⟨rfl, by rw [rdDig_nm]⟩) | (rw [if_neg (by omega)]; first | exact ⟨rfl, rfl⟩ | exact ⟨rfl, by rw [rdDig_nm]⟩)) rfl hQ d_Reader_read_143
    · skip
      refine lv_aload_n C.1 C.2.1 d_Reader_read_127 rfl (lv_at hl 0 rfl) ?_
      refine r_callVi (rest := []) (wr := []) (wn := fun u => [(rA, .inr (2, [.int (nI u), .int (nI nm), .int (nI nu)]))]) C Z (c_Reader_finishNumber l D cI cZ rA 6 nm nu (by first | assumption | omega)) k_Reader_35 rfl ⟨by rw [hR]; decide, by rw [hR]; decide⟩ ⟨rfl, rfl⟩ [0] [] [0] (by decide) rfl rfl (by decide) (by decide) (by decide) (fun _ => rfl) 0 rfl rfl hl.1 rfl (Nat.le_of_ble_eq_true rfl) d_Reader_read_128 ⟨Nat.zero_le _, Nat.zero_le _⟩ (fun r u H locs hp Z => ?_)
      obtain ⟨hp1, hp2⟩ := hp; have hp1 := hp1.symm; have hp2 := hp2.symm; subst hp1; subst hp2
      have Z : Wd D A s.heap [(rA, .inr (2, [.int (nI 0), .int (nI nm), .int (nI nu)]))] H locs := Z
      refine lv_goto (tgt := 143) C.1 C.2.1 d_Reader_read_131 (by decide) ?_
      exact r_iret C Z (0, nm, nu) (by clear C Z hl; rw [rdP_6]; first | exact ⟨rfl, rfl⟩ | exact ⟨rfl, by rw [rdDig_nm]⟩ | (rw [if_pos (by omega)]; first | exact ⟨rfl, rfl⟩ | exact ⟨rfl, by rw [rdDig_nm]⟩) | (rw [if_neg (by omega)]; first | exact ⟨rfl, rfl⟩ | exact ⟨rfl, by rw [rdDig_nm]⟩)) rfl hQ d_Reader_read_143
