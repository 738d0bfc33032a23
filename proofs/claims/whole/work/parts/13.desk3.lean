set_option maxHeartbeats 4000000 in
set_option maxRecDepth 100000 in
theorem c_Desk_putBad (l : Launch) (D : va_G) (cI cZ : ClassId) (dA hA eA rA oA pA : Nat) (n : Nat) (fa : Nat) (fp : Int32) (op : Nat) (ol : Nat) (ml : Nat) (me : Nat) (pu : Int32) (de : Nat) (v : Int64) (x : Int32) (hx : x < nI 1 ∨ nI 8 < x) : Mi l y_Desk_put b_Desk_put 5 (some .boolean) ({ frames := 0, cells := 0, slots := 0, locals := 0 } : Room) D cI cZ [.ref dA, .long v, .int x] [(dA, .inr (0, [.ref hA, .int (nI n), .ref eA, .ref rA, .int (nI fa), .int fp, .int (nI op), .ref oA, .int (nI ol), .ref pA, .int (nI ml), .int (nI me), .int pu, .int (nI de)]))] (fun (r : Int32) (u : Unit) => r = nI 0 ∧ u = ()) (fun u : Unit => [(dA, .inr (0, [.ref hA, .int (nI n), .ref eA, .ref rA, .int (nI fa), .int fp, .int (nI op), .ref oA, .int (nI ol), .ref pA, .int (nI ml), .int (nI me), .int pu, .int (nI de)]))]) := by
  refine Mi.intro (by decide) (Nat.le_of_ble_eq_true rfl) ?_
  intro p e s m args below meth cd A ls R Q hR hQ C Z hl
  have hl : lv_has ls 5 [(0, .ref dA), (1, .long v), (3, .int x)] := hl
  refine lv_iload_n C.1 C.2.1 d_Desk_put_0 rfl (lv_at hl 2 rfl) ?_
  refine lv_iconst (v := nI 1) C.1 C.2.1 d_Desk_put_1 (by decide) ?_
  refine lv_icmp_lt (tgt := 23) C.1 C.2.1 d_Desk_put_2 (by decide) (fun h2 => ?_) (fun h2 => ?_)
  · skip
    refine lv_iconst (v := nI 0) C.1 C.2.1 d_Desk_put_23 (by decide) ?_
    exact r_zret C Z (by omega) () (by first | exact ⟨rfl, rfl⟩ | (clear C Z hl; simp [h2]; done) | (clear C Z hl; grind)) rfl hQ d_Desk_put_24
  · skip
    refine lv_iload_n C.1 C.2.1 d_Desk_put_5 rfl (lv_at hl 2 rfl) ?_
    refine lv_bipush (v := nI 8) C.1 C.2.1 d_Desk_put_6 (by decide) ?_
    refine lv_icmp_gt (tgt := 23) C.1 C.2.1 d_Desk_put_8 (by decide) (fun h8 => ?_) (fun h8 => ?_)
    · skip
      refine lv_iconst (v := nI 0) C.1 C.2.1 d_Desk_put_23 (by decide) ?_
      exact r_zret C Z (by omega) () (by first | exact ⟨rfl, rfl⟩ | (clear C Z hl; simp [h2, h8]; done) | (clear C Z hl; grind)) rfl hQ d_Desk_put_24
    · skip
      exact (hx.elim (fun q => h2 q) (fun q => h8 q)).elim

set_option maxHeartbeats 4000000 in
set_option maxRecDepth 100000 in
theorem c_Desk_putFull (l : Launch) (D : va_G) (cI cZ : ClassId) (dA hA eA rA oA pA : Nat) (n : Nat) (fa : Nat) (fp : Int32) (op : Nat) (ol : Nat) (ml : Nat) (me : Nat) (pu : Int32) (de : Nat) (v : Int64) (q : Nat) (hq : 1 ≤ q ∧ q ≤ 8) (hn : n ≤ 400) (hf : 400 < n + q) : Mi l y_Desk_put b_Desk_put 5 (some .boolean) ({ frames := 0, cells := 0, slots := 0, locals := 0 } : Room) D cI cZ [.ref dA, .long v, .int (nI q)] [(dA, .inr (0, [.ref hA, .int (nI n), .ref eA, .ref rA, .int (nI fa), .int fp, .int (nI op), .ref oA, .int (nI ol), .ref pA, .int (nI ml), .int (nI me), .int pu, .int (nI de)]))] (fun (r : Int32) (u : Unit) => r = nI 0 ∧ u = ()) (fun u : Unit => [(dA, .inr (0, [.ref hA, .int (nI n), .ref eA, .ref rA, .int (nI fa), .int fp, .int (nI op), .ref oA, .int (nI ol), .ref pA, .int (nI ml), .int (nI me), .int pu, .int (nI de)]))]) := by
  refine Mi.intro (by decide) (Nat.le_of_ble_eq_true rfl) ?_
  intro p e s m args below meth cd A ls R Q hR hQ C Z hl
  have hl : lv_has ls 5 [(0, .ref dA), (1, .long v), (3, .int (nI q))] := hl
  refine lv_iload_n C.1 C.2.1 d_Desk_put_0 rfl (lv_at hl 2 rfl) ?_
  refine lv_iconst (v := nI 1) C.1 C.2.1 d_Desk_put_1 (by decide) ?_
  refine r_lt (tgt := 23) C d_Desk_put_2 (by decide) (by omega) (by omega) (fun h2 => (by omega : False).elim) (fun h2 => ?_)
  refine lv_iload_n C.1 C.2.1 d_Desk_put_5 rfl (lv_at hl 2 rfl) ?_
  refine lv_bipush (v := nI 8) C.1 C.2.1 d_Desk_put_6 (by decide) ?_
  refine r_gt (tgt := 23) C d_Desk_put_8 (by decide) (by omega) (by omega) (fun h8 => (by omega : False).elim) (fun h8 => ?_)
  refine lv_aload_n C.1 C.2.1 d_Desk_put_11 rfl (lv_at hl 0 rfl) ?_
  refine r_get C Z 0 f_Desk_13 rfl rfl d_Desk_put_12 ?_
  refine lv_iload_n C.1 C.2.1 d_Desk_put_15 rfl (lv_at hl 2 rfl) ?_
  refine r_add C d_Desk_put_16 ?_
  refine lv_sipush (v := nI 400) C.1 C.2.1 d_Desk_put_17 (by decide) ?_
  refine r_le (tgt := 25) C d_Desk_put_20 (by decide) (by omega) (by omega) (fun h20 => (by omega : False).elim) (fun h20 => ?_)
  refine lv_iconst (v := nI 0) C.1 C.2.1 d_Desk_put_23 (by decide) ?_
  exact r_zret C Z (by omega) () (by first | exact ⟨rfl, rfl⟩ | (clear C Z hl; simp [h2, h8, h20]; done) | (clear C Z hl; grind)) rfl hQ d_Desk_put_24

set_option maxHeartbeats 4000000 in
set_option maxRecDepth 100000 in
theorem c_Desk_put (l : Launch) (D : va_G) (cI cZ : ClassId) (dA hA eA rA oA pA : Nat) (n : Nat) (fa : Nat) (fp : Int32) (op : Nat) (ol : Nat) (ml : Nat) (me : Nat) (pu : Int32) (de : Nat) (hand : Nat → Nat) (v : Int64) (q : Nat) (hq : 1 ≤ q ∧ q ≤ 8) (hf : n + q ≤ 400) : Mi l y_Desk_put b_Desk_put 5 (some .boolean) ({ frames := 0, cells := 0, slots := 0, locals := 0 } : Room) D cI cZ [.ref dA, .long v, .int (nI q)] [(dA, .inr (0, [.ref hA, .int (nI n), .ref eA, .ref rA, .int (nI fa), .int fp, .int (nI op), .ref oA, .int (nI ol), .ref pA, .int (nI ml), .int (nI me), .int pu, .int (nI de)])), (hA, .inl (cI, 400, .inl (aN hand)))] (fun (r : Int32) (u : Nat × (Nat → Nat)) => r = nI 1 ∧ u = (n + q, putL v q n hand)) (fun u : Nat × (Nat → Nat) => [(dA, .inr (0, [.ref hA, .int (nI u.1), .ref eA, .ref rA, .int (nI fa), .int fp, .int (nI op), .ref oA, .int (nI ol), .ref pA, .int (nI ml), .int (nI me), .int pu, .int (nI de)])), (hA, .inl (cI, 400, .inl (aN u.2)))]) := by
  refine Mi.intro (by decide) (Nat.le_of_ble_eq_true rfl) ?_
  intro p e s m args below meth cd A ls R Q hR hQ C Z hl
  have hl : lv_has ls 5 [(0, .ref dA), (1, .long v), (3, .int (nI q))] := hl
  refine lv_iload_n C.1 C.2.1 d_Desk_put_0 rfl (lv_at hl 2 rfl) ?_
  refine lv_iconst (v := nI 1) C.1 C.2.1 d_Desk_put_1 (by decide) ?_
  refine r_lt (tgt := 23) C d_Desk_put_2 (by decide) (by omega) (by omega) (fun h2 => (by omega : False).elim) (fun h2 => ?_)
  refine lv_iload_n C.1 C.2.1 d_Desk_put_5 rfl (lv_at hl 2 rfl) ?_
  refine lv_bipush (v := nI 8) C.1 C.2.1 d_Desk_put_6 (by decide) ?_
  refine r_gt (tgt := 23) C d_Desk_put_8 (by decide) (by omega) (by omega) (fun h8 => (by omega : False).elim) (fun h8 => ?_)
  refine lv_aload_n C.1 C.2.1 d_Desk_put_11 rfl (lv_at hl 0 rfl) ?_
  refine r_get C Z 0 f_Desk_13 rfl rfl d_Desk_put_12 ?_
  refine lv_iload_n C.1 C.2.1 d_Desk_put_15 rfl (lv_at hl 2 rfl) ?_
  refine r_add C d_Desk_put_16 ?_
  refine lv_sipush (v := nI 400) C.1 C.2.1 d_Desk_put_17 (by decide) ?_
  refine r_le (tgt := 25) C d_Desk_put_20 (by decide) (by omega) (by omega) (fun h20 => ?_) (fun h20 => (by omega : False).elim)
  refine lv_iload_n C.1 C.2.1 d_Desk_put_25 rfl (lv_at hl 2 rfl) ?_
  refine lv_iconst (v := nI 1) C.1 C.2.1 d_Desk_put_26 (by decide) ?_
  refine r_sub C (by omega) d_Desk_put_27 ?_
  refine lv_istore (lv' := [(4, .int (nI (q - 1))), (0, .ref dA), (1, .long v), (3, .int (nI q))]) C.1 C.2.1 d_Desk_put_28 hl (by decide) rfl (fun ls hl => ?_)
  obtain ⟨X, hX⟩ : ∃ X, X = putL v q n hand := ⟨_, rfl⟩
  have loop : ∀ (r i : Nat) (hand : Nat → Nat), i + r = n + q → r ≤ q → putL v r i hand = X → ∀ (H : Heap) (locs : List Loc) (ls : Array Slot), Wd D A s.heap [(dA, .inr (0, [.ref hA, .int (nI i), .ref eA, .ref rA, .int (nI fa), .int fp, .int (nI op), .ref oA, .int (nI ol), .ref pA, .int (nI ml), .int (nI me), .int pu, .int (nI de)])), (hA, .inl (cI, 400, .inl (aN hand)))] H locs → lv_has ls 5 [(4, .int (nI r - 1)), (0, .ref dA), (1, .long v), (3, .int (nI q))] → W p l e R s m args below meth cd H locs 0 0 Q (F0 m 30 ls []) := by
    clear hl Z
    intro r
    induction r with
    | zero =>
      intro i hand hir hrq hF H locs ls Z hl
      rw [show nI 0 - 1 = (-1 : Int32) from by decide] at hl
      refine lv_iload C.1 C.2.1 d_Desk_put_30 (lv_at hl 0 rfl) ?_
      refine lv_if_lt (tgt := 72) C.1 C.2.1 d_Desk_put_32 (by decide) (fun h32 => ?_) (fun h32 => absurd h32 (by decide))
      refine lv_iconst (v := nI 1) C.1 C.2.1 d_Desk_put_72 (by decide) ?_
      exact r_zret C Z (by omega) (i, hand) (by clear C Z hl; have hi2 : i = n + q := (by omega); have hF2 : hand = X := hF; exact ⟨rfl, by rw [hi2, hF2, hX]⟩) rfl hQ d_Desk_put_73
    | succ r ih =>
      intro i hand hir hrq hF H locs ls Z hl
      rw [nI_pred] at hl
      refine lv_iload C.1 C.2.1 d_Desk_put_30 (lv_at hl 0 rfl) ?_
      refine r_zlt (tgt := 72) C d_Desk_put_32 (by decide) (by omega) ?_
      refine lv_aload_n C.1 C.2.1 d_Desk_put_35 rfl (lv_at hl 1 rfl) ?_
      refine r_get C Z 0 f_Desk_9 rfl rfl d_Desk_put_36 ?_
      refine lv_aload_n C.1 C.2.1 d_Desk_put_39 rfl (lv_at hl 1 rfl) ?_
      refine r_get C Z 0 f_Desk_13 rfl rfl d_Desk_put_40 ?_
      refine lv_lload_n C.1 C.2.1 d_Desk_put_43 rfl (lv_at hl 2 rfl) ?_
      refine lv_bipush (v := nI 8) C.1 C.2.1 d_Desk_put_44 (by decide) ?_
      refine lv_iload C.1 C.2.1 d_Desk_put_46 (lv_at hl 0 rfl) ?_
      refine r_mul C d_Desk_put_48 ?_
      refine lv_lushr C.1 C.2.1 d_Desk_put_49 rfl ?_
      refine lv_l2i C.1 C.2.1 d_Desk_put_50 rfl ?_
      refine lv_sipush (v := nI 255) C.1 C.2.1 d_Desk_put_51 (by decide) ?_
      refine lv_iand C.1 C.2.1 d_Desk_put_54 ?_
      rw [byt_u v (show r < 8 by omega)]
      refine r_istN (ws' := [(dA, .inr (0, [.ref hA, .int (nI i), .ref eA, .ref rA, .int (nI fa), .int fp, .int (nI op), .ref oA, .int (nI ol), .ref pA, .int (nI ml), .int (nI me), .int pu, .int (nI de)])), (hA, .inl (cI, 400, .inl (aN (updN hand i (byt v r)))))]) C Z 1 rfl (by omega) (by decide) rfl d_Desk_put_55 (fun H locs Z => ?_)
      refine lv_aload_n C.1 C.2.1 d_Desk_put_56 rfl (lv_at hl 1 rfl) ?_
      refine lv_dup C.1 C.2.1 d_Desk_put_57 rfl ?_
      refine r_get C Z 0 f_Desk_13 rfl rfl d_Desk_put_58 ?_
      refine lv_iconst (v := nI 1) C.1 C.2.1 d_Desk_put_61 (by decide) ?_
      refine r_add C d_Desk_put_62 ?_
      refine r_put (ws' := [(dA, .inr (0, [.ref hA, .int (nI (i + 1)), .ref eA, .ref rA, .int (nI fa), .int fp, .int (nI op), .ref oA, .int (nI ol), .ref pA, .int (nI ml), .int (nI me), .int pu, .int (nI de)])), (hA, .inl (cI, 400, .inl (aN (updN hand i (byt v r)))))]) C Z 0 f_Desk_13 rfl rfl rfl (Nat.le_of_ble_eq_true rfl) rfl d_Desk_put_63 (fun H locs Z => ?_)
      refine lv_iinc (v := nI r - 1) (lv' := [(4, .int (nI r - 1)), (0, .ref dA), (1, .long v), (3, .int (nI q))]) C.1 C.2.1 d_Desk_put_66 hl (k := 0) rfl (r_dec1 _) (by decide) rfl (fun ls hl => ?_)
      refine lv_goto (tgt := 30) C.1 C.2.1 d_Desk_put_69 (by decide) ?_
      exact ih (i + 1) (updN hand i (byt v r)) (by omega) (by omega) hF _ _ _ Z hl
  exact loop q n hand rfl (Nat.le_refl _) hX.symm _ _ _ Z (by rw [show nI q - 1 = nI (q - 1) from m1_sub (by omega)]; exact hl)

set_option maxHeartbeats 4000000 in
set_option maxRecDepth 100000 in
theorem c_Desk_declareBad (l : Launch) (D : va_G) (cI cZ : ClassId) (dA hA eA rA oA pA : Nat) (n : Nat) (fa : Nat) (fp : Int32) (op : Nat) (ol : Nat) (ml : Nat) (me : Nat) (pu : Int32) (de : Nat) (x : Int32) (hx : x < 0 ∨ nI 26 ≤ x) : Mi l y_Desk_declare b_Desk_declare 3 (some .int) ({ frames := 1, cells := 0, slots := 0, locals := 20 } : Room) D cI cZ [.ref dA, .int x] [(dA, .inr (0, [.ref hA, .int (nI n), .ref eA, .ref rA, .int (nI fa), .int fp, .int (nI op), .ref oA, .int (nI ol), .ref pA, .int (nI ml), .int (nI me), .int pu, .int (nI de)]))] (fun (r : Int32) (u : Unit) => r = (-102) ∧ u = ()) (fun u : Unit => [(dA, .inr (0, [.ref hA, .int (nI n), .ref eA, .ref rA, .int (nI fa), .int fp, .int (nI op), .ref oA, .int (nI ol), .ref pA, .int (nI ml), .int (nI me), .int pu, .int (nI de)]))]) := by
  refine Mi.intro (by decide) (Nat.le_of_ble_eq_true rfl) ?_
  intro p e s m args below meth cd A ls R Q hR hQ C Z hl
  have hl : lv_has ls 3 [(0, .ref dA), (1, .int x)] := hl
  refine lv_iload_n C.1 C.2.1 d_Desk_declare_0 rfl (lv_at hl 1 rfl) ?_
  refine r_callSi (rest := []) (wr := [(dA, .inr (0, [.ref hA, .int (nI n), .ref eA, .ref rA, .int (nI fa), .int fp, .int (nI op), .ref oA, .int (nI ol), .ref pA, .int (nI ml), .int (nI me), .int pu, .int (nI de)]))]) (wn := fun u => [(dA, .inr (0, [.ref hA, .int (nI n), .ref eA, .ref rA, .int (nI fa), .int fp, .int (nI op), .ref oA, .int (nI ol), .ref pA, .int (nI ml), .int (nI me), .int pu, .int (nI de)]))]) C Z (c_Desk_isNameBad l D cI cZ x (by first | assumption | omega)) k_Desk_62 rfl ⟨by rw [hR]; decide, by rw [hR]; decide⟩ ⟨rfl, rfl⟩ [] [0] [0] (by decide) rfl rfl (by decide) (by decide) (by decide) (fun _ => rfl) hl.1 rfl (Nat.le_of_ble_eq_true rfl) d_Desk_declare_1 ⟨Nat.zero_le _, Nat.zero_le _⟩ (fun r u H locs hp Z => ?_)
  obtain ⟨hp1, hp2⟩ := hp; have hp1 := hp1.symm; have hp2 := hp2.symm; subst hp1; subst hp2
  have Z : Wd D A s.heap [(dA, .inr (0, [.ref hA, .int (nI n), .ref eA, .ref rA, .int (nI fa), .int fp, .int (nI op), .ref oA, .int (nI ol), .ref pA, .int (nI ml), .int (nI me), .int pu, .int (nI de)]))] H locs := Z
  refine r_zne (tgt := 10) C d_Desk_declare_4 (by decide) (by omega) (fun h4 => (by omega : False).elim) (fun h4 => ?_)
  refine lv_bipush (v := (-102)) C.1 C.2.1 d_Desk_declare_7 (by decide) ?_
  exact r_iret C Z () (by first | exact ⟨rfl, rfl⟩ | (clear C Z hl; simp [h4]; done) | (clear C Z hl; grind)) rfl hQ d_Desk_declare_9

set_option maxHeartbeats 4000000 in
set_option maxRecDepth 100000 in
theorem c_Desk_declareHas (l : Launch) (D : va_G) (cI cZ : ClassId) (dA hA eA rA oA pA wA sA lA : Nat) (n : Nat) (fa : Nat) (fp : Int32) (op : Nat) (ol : Nat) (ml : Nat) (me : Nat) (pu : Int32) (de : Nat) (st : Nat) (nm : Nat) (nu : Nat) (dl : Int32) (kept : Nat) (dr : Nat) (ln : Nat → Nat) (k : Nat) (hk : k < 26) (hln : ln k ≠ 0) (hln2 : ln k ≤ 2001) : Mi l y_Desk_declare b_Desk_declare 3 (some .int) ({ frames := 2, cells := 0, slots := 0, locals := 40 } : Room) D cI cZ [.ref dA, .int (nI k)] [(dA, .inr (0, [.ref hA, .int (nI n), .ref eA, .ref rA, .int (nI fa), .int fp, .int (nI op), .ref oA, .int (nI ol), .ref pA, .int (nI ml), .int (nI me), .int pu, .int (nI de)])), (eA, .inr (1, [.ref wA, .ref sA, .ref lA, .int dl, .int (nI kept), .int (nI dr)])), (lA, .inl (cI, 26, .inl (aM ln))), (rA, .inr (2, [.int (nI st), .int (nI nm), .int (nI nu)]))] (fun (r : Int32) (u : Nat × Nat × Int32 × Nat × Nat) => r = (-100) ∧ u = (0, 0, (-1), 0, 0)) (fun u : Nat × Nat × Int32 × Nat × Nat => [(dA, .inr (0, [.ref hA, .int (nI u.1), .ref eA, .ref rA, .int (nI u.2.1), .int u.2.2.1, .int (nI u.2.2.2.1), .ref oA, .int (nI ol), .ref pA, .int (nI ml), .int (nI me), .int pu, .int (nI de)])), (eA, .inr (1, [.ref wA, .ref sA, .ref lA, .int dl, .int (nI kept), .int (nI dr)])), (lA, .inl (cI, 26, .inl (aM ln))), (rA, .inr (2, [.int (nI u.2.2.2.2), .int (nI nm), .int (nI nu)]))]) := by
  refine Mi.intro (by decide) (Nat.le_of_ble_eq_true rfl) ?_
  intro p e s m args below meth cd A ls R Q hR hQ C Z hl
  have hl : lv_has ls 3 [(0, .ref dA), (1, .int (nI k))] := hl
  refine lv_iload_n C.1 C.2.1 d_Desk_declare_0 rfl (lv_at hl 1 rfl) ?_
  refine r_callSi (rest := []) (wr := [(dA, .inr (0, [.ref hA, .int (nI n), .ref eA, .ref rA, .int (nI fa), .int fp, .int (nI op), .ref oA, .int (nI ol), .ref pA, .int (nI ml), .int (nI me), .int pu, .int (nI de)])), (eA, .inr (1, [.ref wA, .ref sA, .ref lA, .int dl, .int (nI kept), .int (nI dr)])), (lA, .inl (cI, 26, .inl (aM ln))), (rA, .inr (2, [.int (nI st), .int (nI nm), .int (nI nu)]))]) (wn := fun u => [(dA, .inr (0, [.ref hA, .int (nI n), .ref eA, .ref rA, .int (nI fa), .int fp, .int (nI op), .ref oA, .int (nI ol), .ref pA, .int (nI ml), .int (nI me), .int pu, .int (nI de)])), (eA, .inr (1, [.ref wA, .ref sA, .ref lA, .int dl, .int (nI kept), .int (nI dr)])), (lA, .inl (cI, 26, .inl (aM ln))), (rA, .inr (2, [.int (nI st), .int (nI nm), .int (nI nu)]))]) C Z (c_Desk_isName l D cI cZ k (by first | assumption | omega)) k_Desk_62 rfl ⟨by rw [hR]; decide, by rw [hR]; decide⟩ ⟨rfl, rfl⟩ [] [0, 1, 2, 3] [0, 1, 2, 3] (by decide) rfl rfl (by decide) (by decide) (by decide) (fun _ => rfl) hl.1 rfl (Nat.le_of_ble_eq_true rfl) d_Desk_declare_1 ⟨Nat.zero_le _, Nat.zero_le _⟩ (fun r u H locs hp Z => ?_)
  obtain ⟨hp1, hp2⟩ := hp; have hp1 := hp1.symm; have hp2 := hp2.symm; subst hp1; subst hp2
  have Z : Wd D A s.heap [(dA, .inr (0, [.ref hA, .int (nI n), .ref eA, .ref rA, .int (nI fa), .int fp, .int (nI op), .ref oA, .int (nI ol), .ref pA, .int (nI ml), .int (nI me), .int pu, .int (nI de)])), (eA, .inr (1, [.ref wA, .ref sA, .ref lA, .int dl, .int (nI kept), .int (nI dr)])), (lA, .inl (cI, 26, .inl (aM ln))), (rA, .inr (2, [.int (nI st), .int (nI nm), .int (nI nu)]))] H locs := Z
  refine r_zne (tgt := 10) C d_Desk_declare_4 (by decide) (by omega) (fun h4 => ?_) (fun h4 => (by omega : False).elim)
  refine lv_aload_n C.1 C.2.1 d_Desk_declare_10 rfl (lv_at hl 0 rfl) ?_
  refine r_get C Z 0 f_Desk_13 rfl rfl d_Desk_declare_11 ?_
  refine lv_istore_n (lv' := [(2, .int (nI n)), (0, .ref dA), (1, .int (nI k))]) C.1 C.2.1 d_Desk_declare_14 rfl hl (by decide) rfl (fun ls hl => ?_)
  refine lv_aload_n C.1 C.2.1 d_Desk_declare_15 rfl (lv_at hl 1 rfl) ?_
  refine lv_iconst (v := nI 0) C.1 C.2.1 d_Desk_declare_16 (by decide) ?_
  refine r_put (ws' := [(dA, .inr (0, [.ref hA, .int (nI 0), .ref eA, .ref rA, .int (nI fa), .int fp, .int (nI op), .ref oA, .int (nI ol), .ref pA, .int (nI ml), .int (nI me), .int pu, .int (nI de)])), (eA, .inr (1, [.ref wA, .ref sA, .ref lA, .int dl, .int (nI kept), .int (nI dr)])), (lA, .inl (cI, 26, .inl (aM ln))), (rA, .inr (2, [.int (nI st), .int (nI nm), .int (nI nu)]))]) C Z 0 f_Desk_13 rfl rfl rfl (Nat.le_of_ble_eq_true rfl) rfl d_Desk_declare_17 (fun H locs Z => ?_)
  refine lv_aload_n C.1 C.2.1 d_Desk_declare_20 rfl (lv_at hl 1 rfl) ?_
  refine r_callVv (rest := []) (wr := [(eA, .inr (1, [.ref wA, .ref sA, .ref lA, .int dl, .int (nI kept), .int (nI dr)])), (lA, .inl (cI, 26, .inl (aM ln)))]) (wn := fun u => [(dA, .inr (0, [.ref hA, .int (nI 0), .ref eA, .ref rA, .int (nI u.1), .int u.2.1, .int (nI u.2.2.1), .ref oA, .int (nI ol), .ref pA, .int (nI ml), .int (nI me), .int pu, .int (nI de)])), (eA, .inr (1, [.ref wA, .ref sA, .ref lA, .int dl, .int (nI kept), .int (nI dr)])), (lA, .inl (cI, 26, .inl (aM ln))), (rA, .inr (2, [.int (nI u.2.2.2), .int (nI nm), .int (nI nu)]))]) C Z (c_Desk_beginReading l D cI cZ dA hA eA rA oA pA 0 fa fp op ol ml me pu de st nm nu) k_Desk_66 rfl ⟨by rw [hR]; decide, by rw [hR]; decide⟩ ⟨rfl, rfl⟩ [0, 3] [1, 2] [2, 0, 1, 3] (by decide) rfl rfl (by decide) (by decide) (by decide) (fun _ => rfl) 0 rfl rfl hl.1 rfl (Nat.le_of_ble_eq_true rfl) d_Desk_declare_21 ⟨Nat.zero_le _, Nat.zero_le _⟩ (fun u H locs hp Z => ?_)
  have hp := hp.symm; subst hp
  have Z : Wd D A s.heap [(dA, .inr (0, [.ref hA, .int (nI 0), .ref eA, .ref rA, .int (nI 0), .int (-1), .int (nI 0), .ref oA, .int (nI ol), .ref pA, .int (nI ml), .int (nI me), .int pu, .int (nI de)])), (eA, .inr (1, [.ref wA, .ref sA, .ref lA, .int dl, .int (nI kept), .int (nI dr)])), (lA, .inl (cI, 26, .inl (aM ln))), (rA, .inr (2, [.int (nI 0), .int (nI nm), .int (nI nu)]))] H locs := Z
  refine lv_aload_n C.1 C.2.1 d_Desk_declare_24 rfl (lv_at hl 1 rfl) ?_
  refine r_get C Z 0 f_Desk_20 rfl rfl d_Desk_declare_25 ?_
  refine lv_iload_n C.1 C.2.1 d_Desk_declare_28 rfl (lv_at hl 2 rfl) ?_
  refine r_callNi (rest := []) (wr := [(dA, .inr (0, [.ref hA, .int (nI 0), .ref eA, .ref rA, .int (nI 0), .int (-1), .int (nI 0), .ref oA, .int (nI ol), .ref pA, .int (nI ml), .int (nI me), .int pu, .int (nI de)])), (rA, .inr (2, [.int (nI 0), .int (nI nm), .int (nI nu)]))]) (wn := fun u => [(dA, .inr (0, [.ref hA, .int (nI 0), .ref eA, .ref rA, .int (nI 0), .int (-1), .int (nI 0), .ref oA, .int (nI ol), .ref pA, .int (nI ml), .int (nI me), .int pu, .int (nI de)])), (eA, .inr (1, [.ref wA, .ref sA, .ref lA, .int dl, .int (nI kept), .int (nI dr)])), (lA, .inl (cI, 26, .inl (aM ln))), (rA, .inr (2, [.int (nI 0), .int (nI nm), .int (nI nu)]))]) C Z (c_Ents_has l D cI cZ eA wA sA lA dl kept dr ln k (by first | assumption | omega) (by omega)) k_Desk_69 rfl ⟨by rw [hR]; decide, by rw [hR]; decide⟩ ⟨rfl, rfl⟩ [1, 2] [0, 3] [0, 2, 3, 1] (by decide) rfl rfl (by decide) (by decide) (by decide) (fun _ => rfl) 1 rfl rfl hl.1 rfl (Nat.le_of_ble_eq_true rfl) d_Desk_declare_29 ⟨Nat.zero_le _, Nat.zero_le _⟩ (fun r u H locs hp Z => ?_)
  obtain ⟨hp1, hp2⟩ := hp; have hp1 := hp1.symm; have hp2 := hp2.symm; subst hp1; subst hp2
  have Z : Wd D A s.heap [(dA, .inr (0, [.ref hA, .int (nI 0), .ref eA, .ref rA, .int (nI 0), .int (-1), .int (nI 0), .ref oA, .int (nI ol), .ref pA, .int (nI ml), .int (nI me), .int pu, .int (nI de)])), (eA, .inr (1, [.ref wA, .ref sA, .ref lA, .int dl, .int (nI kept), .int (nI dr)])), (lA, .inl (cI, 26, .inl (aM ln))), (rA, .inr (2, [.int (nI 0), .int (nI nm), .int (nI nu)]))] H locs := Z
  refine r_zeq (tgt := 38) C d_Desk_declare_32 (by decide) (by omega) (fun h32 => (by omega : False).elim) (fun h32 => ?_)
  refine lv_bipush (v := (-100)) C.1 C.2.1 d_Desk_declare_35 (by decide) ?_
  exact r_iret C Z (0, 0, (-1), 0, 0) (by first | exact ⟨rfl, rfl⟩ | (clear C Z hl; simp [h4, h32]; done) | (clear C Z hl; grind)) rfl hQ d_Desk_declare_37

set_option maxHeartbeats 4000000 in
set_option maxRecDepth 100000 in
theorem c_Desk_declare (l : Launch) (D : va_G) (cI cZ : ClassId) (dA hA eA rA oA pA wA sA lA : Nat) (n : Nat) (fa : Nat) (fp : Int32) (op : Nat) (ol : Nat) (ml : Nat) (me : Nat) (pu : Int32) (de : Nat) (st : Nat) (nm : Nat) (nu : Nat) (dl : Int32) (kept : Nat) (dr : Nat) (tx : Nat → Nat) (sf : Nat → Nat) (ln : Nat → Nat) (hand : Nat → Nat) (k : Nat) (hk : k < 26) (hln : ln k = 0) (hnm : nm < 26) (hnu : nu ≤ 256) (hkept : kept ≤ 2000) (hn : n ≤ 400) (hh : ∀ j, hand j < 256) : Mi l y_Desk_declare b_Desk_declare 3 (some .int) ({ frames := 6, cells := 0, slots := 0, locals := 134 } : Room) D cI cZ [.ref dA, .int (nI k)] [(dA, .inr (0, [.ref hA, .int (nI n), .ref eA, .ref rA, .int (nI fa), .int fp, .int (nI op), .ref oA, .int (nI ol), .ref pA, .int (nI ml), .int (nI me), .int pu, .int (nI de)])), (hA, .inl (cI, 400, .inl (aN hand))), (eA, .inr (1, [.ref wA, .ref sA, .ref lA, .int dl, .int (nI kept), .int (nI dr)])), (wA, .inl (cI, 2000, .inl (aN tx))), (sA, .inl (cI, 26, .inl (aN sf))), (lA, .inl (cI, 26, .inl (aM ln))), (rA, .inr (2, [.int (nI st), .int (nI nm), .int (nI nu)]))] (fun (r : Int32) (u : DS × ((Nat → Nat) × (Nat → Nat) × Nat × Int32)) => r = (declR kept (dText kept n hand (0, -1, 0, tx, 0, 0, nm, nu))) ∧ u = ((dText kept n hand (0, -1, 0, tx, 0, 0, nm, nu)), declS k kept sf ln dl (dText kept n hand (0, -1, 0, tx, 0, 0, nm, nu)))) (fun u : DS × ((Nat → Nat) × (Nat → Nat) × Nat × Int32) => [(dA, .inr (0, [.ref hA, .int (nI 0), .ref eA, .ref rA, .int (nI u.1.1), .int u.1.2.1, .int (nI u.1.2.2.1), .ref oA, .int (nI ol), .ref pA, .int (nI ml), .int (nI me), .int pu, .int (nI de)])), (hA, .inl (cI, 400, .inl (aN hand))), (eA, .inr (1, [.ref wA, .ref sA, .ref lA, .int u.2.2.2.2, .int (nI u.2.2.2.1), .int (nI u.1.2.2.2.2.1)])), (wA, .inl (cI, 2000, .inl (aN u.1.2.2.2.1))), (sA, .inl (cI, 26, .inl (aN u.2.1))), (lA, .inl (cI, 26, .inl (aM u.2.2.1))), (rA, .inr (2, [.int (nI u.1.2.2.2.2.2.1), .int (nI u.1.2.2.2.2.2.2.1), .int (nI u.1.2.2.2.2.2.2.2)]))]) := by
  refine Mi.intro (by decide) (Nat.le_of_ble_eq_true rfl) ?_
  intro p e s m args below meth cd A ls R Q hR hQ C Z hl
  have hl : lv_has ls 3 [(0, .ref dA), (1, .int (nI k))] := hl
  refine lv_iload_n C.1 C.2.1 d_Desk_declare_0 rfl (lv_at hl 1 rfl) ?_
  refine r_callSi (rest := []) (wr := [(dA, .inr (0, [.ref hA, .int (nI n), .ref eA, .ref rA, .int (nI fa), .int fp, .int (nI op), .ref oA, .int (nI ol), .ref pA, .int (nI ml), .int (nI me), .int pu, .int (nI de)])), (hA, .inl (cI, 400, .inl (aN hand))), (eA, .inr (1, [.ref wA, .ref sA, .ref lA, .int dl, .int (nI kept), .int (nI dr)])), (wA, .inl (cI, 2000, .inl (aN tx))), (sA, .inl (cI, 26, .inl (aN sf))), (lA, .inl (cI, 26, .inl (aM ln))), (rA, .inr (2, [.int (nI st), .int (nI nm), .int (nI nu)]))]) (wn := fun u => [(dA, .inr (0, [.ref hA, .int (nI n), .ref eA, .ref rA, .int (nI fa), .int fp, .int (nI op), .ref oA, .int (nI ol), .ref pA, .int (nI ml), .int (nI me), .int pu, .int (nI de)])), (hA, .inl (cI, 400, .inl (aN hand))), (eA, .inr (1, [.ref wA, .ref sA, .ref lA, .int dl, .int (nI kept), .int (nI dr)])), (wA, .inl (cI, 2000, .inl (aN tx))), (sA, .inl (cI, 26, .inl (aN sf))), (lA, .inl (cI, 26, .inl (aM ln))), (rA, .inr (2, [.int (nI st), .int (nI nm), .int (nI nu)]))]) C Z (c_Desk_isName l D cI cZ k (by first | assumption | omega)) k_Desk_62 rfl ⟨by rw [hR]; decide, by rw [hR]; decide⟩ ⟨rfl, rfl⟩ [] [0, 1, 2, 3, 4, 5, 6] [0, 1, 2, 3, 4, 5, 6] (by decide) rfl rfl (by decide) (by decide) (by decide) (fun _ => rfl) hl.1 rfl (Nat.le_of_ble_eq_true rfl) d_Desk_declare_1 ⟨Nat.zero_le _, Nat.zero_le _⟩ (fun r u H locs hp Z => ?_)
  obtain ⟨hp1, hp2⟩ := hp; have hp1 := hp1.symm; have hp2 := hp2.symm; subst hp1; subst hp2
  have Z : Wd D A s.heap [(dA, .inr (0, [.ref hA, .int (nI n), .ref eA, .ref rA, .int (nI fa), .int fp, .int (nI op), .ref oA, .int (nI ol), .ref pA, .int (nI ml), .int (nI me), .int pu, .int (nI de)])), (hA, .inl (cI, 400, .inl (aN hand))), (eA, .inr (1, [.ref wA, .ref sA, .ref lA, .int dl, .int (nI kept), .int (nI dr)])), (wA, .inl (cI, 2000, .inl (aN tx))), (sA, .inl (cI, 26, .inl (aN sf))), (lA, .inl (cI, 26, .inl (aM ln))), (rA, .inr (2, [.int (nI st), .int (nI nm), .int (nI nu)]))] H locs := Z
  refine r_zne (tgt := 10) C d_Desk_declare_4 (by decide) (by omega) (fun h4 => ?_) (fun h4 => (by omega : False).elim)
  refine lv_aload_n C.1 C.2.1 d_Desk_declare_10 rfl (lv_at hl 0 rfl) ?_
  refine r_get C Z 0 f_Desk_13 rfl rfl d_Desk_declare_11 ?_
  refine lv_istore_n (lv' := [(2, .int (nI n)), (0, .ref dA), (1, .int (nI k))]) C.1 C.2.1 d_Desk_declare_14 rfl hl (by decide) rfl (fun ls hl => ?_)
  refine lv_aload_n C.1 C.2.1 d_Desk_declare_15 rfl (lv_at hl 1 rfl) ?_
  refine lv_iconst (v := nI 0) C.1 C.2.1 d_Desk_declare_16 (by decide) ?_
  refine r_put (ws' := [(dA, .inr (0, [.ref hA, .int (nI 0), .ref eA, .ref rA, .int (nI fa), .int fp, .int (nI op), .ref oA, .int (nI ol), .ref pA, .int (nI ml), .int (nI me), .int pu, .int (nI de)])), (hA, .inl (cI, 400, .inl (aN hand))), (eA, .inr (1, [.ref wA, .ref sA, .ref lA, .int dl, .int (nI kept), .int (nI dr)])), (wA, .inl (cI, 2000, .inl (aN tx))), (sA, .inl (cI, 26, .inl (aN sf))), (lA, .inl (cI, 26, .inl (aM ln))), (rA, .inr (2, [.int (nI st), .int (nI nm), .int (nI nu)]))]) C Z 0 f_Desk_13 rfl rfl rfl (Nat.le_of_ble_eq_true rfl) rfl d_Desk_declare_17 (fun H locs Z => ?_)
  refine lv_aload_n C.1 C.2.1 d_Desk_declare_20 rfl (lv_at hl 1 rfl) ?_
  refine r_callVv (rest := []) (wr := [(hA, .inl (cI, 400, .inl (aN hand))), (eA, .inr (1, [.ref wA, .ref sA, .ref lA, .int dl, .int (nI kept), .int (nI dr)])), (wA, .inl (cI, 2000, .inl (aN tx))), (sA, .inl (cI, 26, .inl (aN sf))), (lA, .inl (cI, 26, .inl (aM ln)))]) (wn := fun u => [(dA, .inr (0, [.ref hA, .int (nI 0), .ref eA, .ref rA, .int (nI u.1), .int u.2.1, .int (nI u.2.2.1), .ref oA, .int (nI ol), .ref pA, .int (nI ml), .int (nI me), .int pu, .int (nI de)])), (hA, .inl (cI, 400, .inl (aN hand))), (eA, .inr (1, [.ref wA, .ref sA, .ref lA, .int dl, .int (nI kept), .int (nI dr)])), (wA, .inl (cI, 2000, .inl (aN tx))), (sA, .inl (cI, 26, .inl (aN sf))), (lA, .inl (cI, 26, .inl (aM ln))), (rA, .inr (2, [.int (nI u.2.2.2), .int (nI nm), .int (nI nu)]))]) C Z (c_Desk_beginReading l D cI cZ dA hA eA rA oA pA 0 fa fp op ol ml me pu de st nm nu) k_Desk_66 rfl ⟨by rw [hR]; decide, by rw [hR]; decide⟩ ⟨rfl, rfl⟩ [0, 6] [1, 2, 3, 4, 5] [5, 0, 1, 2, 3, 4, 6] (by decide) rfl rfl (by decide) (by decide) (by decide) (fun _ => rfl) 0 rfl rfl hl.1 rfl (Nat.le_of_ble_eq_true rfl) d_Desk_declare_21 ⟨Nat.zero_le _, Nat.zero_le _⟩ (fun u H locs hp Z => ?_)
  have hp := hp.symm; subst hp
  have Z : Wd D A s.heap [(dA, .inr (0, [.ref hA, .int (nI 0), .ref eA, .ref rA, .int (nI 0), .int (-1), .int (nI 0), .ref oA, .int (nI ol), .ref pA, .int (nI ml), .int (nI me), .int pu, .int (nI de)])), (hA, .inl (cI, 400, .inl (aN hand))), (eA, .inr (1, [.ref wA, .ref sA, .ref lA, .int dl, .int (nI kept), .int (nI dr)])), (wA, .inl (cI, 2000, .inl (aN tx))), (sA, .inl (cI, 26, .inl (aN sf))), (lA, .inl (cI, 26, .inl (aM ln))), (rA, .inr (2, [.int (nI 0), .int (nI nm), .int (nI nu)]))] H locs := Z
  refine lv_aload_n C.1 C.2.1 d_Desk_declare_24 rfl (lv_at hl 1 rfl) ?_
  refine r_get C Z 0 f_Desk_20 rfl rfl d_Desk_declare_25 ?_
  refine lv_iload_n C.1 C.2.1 d_Desk_declare_28 rfl (lv_at hl 2 rfl) ?_
  refine r_callNi (rest := []) (wr := [(dA, .inr (0, [.ref hA, .int (nI 0), .ref eA, .ref rA, .int (nI 0), .int (-1), .int (nI 0), .ref oA, .int (nI ol), .ref pA, .int (nI ml), .int (nI me), .int pu, .int (nI de)])), (hA, .inl (cI, 400, .inl (aN hand))), (wA, .inl (cI, 2000, .inl (aN tx))), (sA, .inl (cI, 26, .inl (aN sf))), (rA, .inr (2, [.int (nI 0), .int (nI nm), .int (nI nu)]))]) (wn := fun u => [(dA, .inr (0, [.ref hA, .int (nI 0), .ref eA, .ref rA, .int (nI 0), .int (-1), .int (nI 0), .ref oA, .int (nI ol), .ref pA, .int (nI ml), .int (nI me), .int pu, .int (nI de)])), (hA, .inl (cI, 400, .inl (aN hand))), (eA, .inr (1, [.ref wA, .ref sA, .ref lA, .int dl, .int (nI kept), .int (nI dr)])), (wA, .inl (cI, 2000, .inl (aN tx))), (sA, .inl (cI, 26, .inl (aN sf))), (lA, .inl (cI, 26, .inl (aM ln))), (rA, .inr (2, [.int (nI 0), .int (nI nm), .int (nI nu)]))]) C Z (c_Ents_has l D cI cZ eA wA sA lA dl kept dr ln k (by first | assumption | omega) (by omega)) k_Desk_69 rfl ⟨by rw [hR]; decide, by rw [hR]; decide⟩ ⟨rfl, rfl⟩ [2, 5] [0, 1, 3, 4, 6] [0, 1, 5, 2, 3, 6, 4] (by decide) rfl rfl (by decide) (by decide) (by decide) (fun _ => rfl) 2 rfl rfl hl.1 rfl (Nat.le_of_ble_eq_true rfl) d_Desk_declare_29 ⟨Nat.zero_le _, Nat.zero_le _⟩ (fun r u H locs hp Z => ?_)
  obtain ⟨hp1, hp2⟩ := hp; have hp1 := hp1.symm; have hp2 := hp2.symm; subst hp1; subst hp2
  have Z : Wd D A s.heap [(dA, .inr (0, [.ref hA, .int (nI 0), .ref eA, .ref rA, .int (nI 0), .int (-1), .int (nI 0), .ref oA, .int (nI ol), .ref pA, .int (nI ml), .int (nI me), .int pu, .int (nI de)])), (hA, .inl (cI, 400, .inl (aN hand))), (eA, .inr (1, [.ref wA, .ref sA, .ref lA, .int dl, .int (nI kept), .int (nI dr)])), (wA, .inl (cI, 2000, .inl (aN tx))), (sA, .inl (cI, 26, .inl (aN sf))), (lA, .inl (cI, 26, .inl (aM ln))), (rA, .inr (2, [.int (nI 0), .int (nI nm), .int (nI nu)]))] H locs := Z
  refine r_zeq (tgt := 38) C d_Desk_declare_32 (by decide) (by omega) (fun h32 => ?_) (fun h32 => (by omega : False).elim)
  refine lv_aload_n C.1 C.2.1 d_Desk_declare_38 rfl (lv_at hl 1 rfl) ?_
  refine lv_iload_n C.1 C.2.1 d_Desk_declare_39 rfl (lv_at hl 0 rfl) ?_
  refine r_callVv (rest := []) (wr := [(sA, .inl (cI, 26, .inl (aN sf))), (lA, .inl (cI, 26, .inl (aM ln)))]) (wn := fun u => [(dA, .inr (0, [.ref hA, .int (nI 0), .ref eA, .ref rA, .int (nI u.1), .int u.2.1, .int (nI u.2.2.1), .ref oA, .int (nI ol), .ref pA, .int (nI ml), .int (nI me), .int pu, .int (nI de)])), (hA, .inl (cI, 400, .inl (aN hand))), (eA, .inr (1, [.ref wA, .ref sA, .ref lA, .int dl, .int (nI kept), .int (nI u.2.2.2.2.1)])), (wA, .inl (cI, 2000, .inl (aN u.2.2.2.1))), (sA, .inl (cI, 26, .inl (aN sf))), (lA, .inl (cI, 26, .inl (aM ln))), (rA, .inr (2, [.int (nI u.2.2.2.2.2.1), .int (nI u.2.2.2.2.2.2.1), .int (nI u.2.2.2.2.2.2.2)]))]) C Z (c_Desk_draftText l D cI cZ dA hA eA rA oA pA wA sA lA 0 0 (-1) 0 ol ml me pu de 0 nm nu dl kept dr tx hand n (by first | assumption | omega) (by first | assumption | omega) (by first | assumption | omega) (by first | assumption | omega) (by first | assumption | omega) (by first | assumption | omega) (by first | assumption | omega)) k_Desk_72 rfl ⟨by rw [hR]; decide, by rw [hR]; decide⟩ ⟨rfl, rfl⟩ [0, 1, 2, 3, 6] [4, 5] [2, 3, 4, 5, 0, 1, 6] (by decide) rfl rfl (by decide) (by decide) (by decide) (fun _ => rfl) 0 rfl rfl hl.1 rfl (Nat.le_of_ble_eq_true rfl) d_Desk_declare_40 ⟨Nat.zero_le _, Nat.zero_le _⟩ (fun u H locs hp Z => ?_)
  obtain ⟨fa1, fp1, op1, tx1, dr1, st1, nm1, nu1⟩ := u
  have e1 : (fa1, fp1, op1, tx1, dr1, st1, nm1, nu1) = dText kept n hand (0, (-1), 0, tx, 0, 0, nm, nu) := hp
  have Z : Wd D A s.heap [(dA, .inr (0, [.ref hA, .int (nI 0), .ref eA, .ref rA, .int (nI fa1), .int fp1, .int (nI op1), .ref oA, .int (nI ol), .ref pA, .int (nI ml), .int (nI me), .int pu, .int (nI de)])), (hA, .inl (cI, 400, .inl (aN hand))), (eA, .inr (1, [.ref wA, .ref sA, .ref lA, .int dl, .int (nI kept), .int (nI dr1)])), (wA, .inl (cI, 2000, .inl (aN tx1))), (sA, .inl (cI, 26, .inl (aN sf))), (lA, .inl (cI, 26, .inl (aM ln))), (rA, .inr (2, [.int (nI st1), .int (nI nm1), .int (nI nu1)]))] H locs := Z
  have hT := dText_ok (kept := kept) (told := n) (hand := hand) (S := (0, -1, 0, tx, 0, 0, nm, nu)) (by show (0:Nat) ≤ 15; omega) (by show (0:Nat) ≤ 6; omega) hnm hnu
  rw [← e1] at hT
  have hT1 : fa1 ≤ 15 ∧ dr1 ≤ 0 + 3 * n := hT
  refine lv_aload_n C.1 C.2.1 d_Desk_declare_43 rfl (lv_at hl 1 rfl) ?_
  refine r_get C Z 0 f_Desk_31 rfl rfl d_Desk_declare_44 ?_
  refine r_zeq (tgt := 57) C d_Desk_declare_47 (by decide) (by omega) (fun h47 => ?_) (fun h47 => ?_)
  · skip
    refine lv_aload_n C.1 C.2.1 d_Desk_declare_57 rfl (lv_at hl 1 rfl) ?_
    refine r_get C Z 0 f_Desk_20 rfl rfl d_Desk_declare_58 ?_
    refine r_callNi (rest := []) (wr := [(dA, .inr (0, [.ref hA, .int (nI 0), .ref eA, .ref rA, .int (nI fa1), .int fp1, .int (nI op1), .ref oA, .int (nI ol), .ref pA, .int (nI ml), .int (nI me), .int pu, .int (nI de)])), (hA, .inl (cI, 400, .inl (aN hand))), (wA, .inl (cI, 2000, .inl (aN tx1))), (sA, .inl (cI, 26, .inl (aN sf))), (lA, .inl (cI, 26, .inl (aM ln))), (rA, .inr (2, [.int (nI st1), .int (nI nm1), .int (nI nu1)]))]) (wn := fun u => [(dA, .inr (0, [.ref hA, .int (nI 0), .ref eA, .ref rA, .int (nI fa1), .int fp1, .int (nI op1), .ref oA, .int (nI ol), .ref pA, .int (nI ml), .int (nI me), .int pu, .int (nI de)])), (hA, .inl (cI, 400, .inl (aN hand))), (eA, .inr (1, [.ref wA, .ref sA, .ref lA, .int dl, .int (nI kept), .int (nI dr1)])), (wA, .inl (cI, 2000, .inl (aN tx1))), (sA, .inl (cI, 26, .inl (aN sf))), (lA, .inl (cI, 26, .inl (aM ln))), (rA, .inr (2, [.int (nI st1), .int (nI nm1), .int (nI nu1)]))]) C Z (c_Ents_draftFits l D cI cZ eA wA sA lA dl kept dr1 (by first | assumption | omega) (by first | assumption | omega)) k_Desk_76 rfl ⟨by rw [hR]; decide, by rw [hR]; decide⟩ ⟨rfl, rfl⟩ [2] [0, 1, 3, 4, 5, 6] [0, 1, 6, 2, 3, 4, 5] (by decide) rfl rfl (by decide) (by decide) (by decide) (fun _ => rfl) 2 rfl rfl hl.1 rfl (Nat.le_of_ble_eq_true rfl) d_Desk_declare_61 ⟨Nat.zero_le _, Nat.zero_le _⟩ (fun r u H locs hp Z => ?_)
    obtain ⟨hp1, hp2⟩ := hp; have hp1 := hp1.symm; have hp2 := hp2.symm; subst hp1; subst hp2
    have Z : Wd D A s.heap [(dA, .inr (0, [.ref hA, .int (nI 0), .ref eA, .ref rA, .int (nI fa1), .int fp1, .int (nI op1), .ref oA, .int (nI ol), .ref pA, .int (nI ml), .int (nI me), .int pu, .int (nI de)])), (hA, .inl (cI, 400, .inl (aN hand))), (eA, .inr (1, [.ref wA, .ref sA, .ref lA, .int dl, .int (nI kept), .int (nI dr1)])), (wA, .inl (cI, 2000, .inl (aN tx1))), (sA, .inl (cI, 26, .inl (aN sf))), (lA, .inl (cI, 26, .inl (aM ln))), (rA, .inr (2, [.int (nI st1), .int (nI nm1), .int (nI nu1)]))] H locs := Z
    refine r_zne (tgt := 70) C d_Desk_declare_64 (by decide) (by omega) (fun h64 => ?_) (fun h64 => ?_)
    · skip
      refine lv_aload_n C.1 C.2.1 d_Desk_declare_70 rfl (lv_at hl 1 rfl) ?_
      refine r_get C Z 0 f_Desk_20 rfl rfl d_Desk_declare_71 ?_
      refine lv_iload_n C.1 C.2.1 d_Desk_declare_74 rfl (lv_at hl 2 rfl) ?_
      refine r_callNv (rest := []) (wr := [(dA, .inr (0, [.ref hA, .int (nI 0), .ref eA, .ref rA, .int (nI fa1), .int fp1, .int (nI op1), .ref oA, .int (nI ol), .ref pA, .int (nI ml), .int (nI me), .int pu, .int (nI de)])), (hA, .inl (cI, 400, .inl (aN hand))), (wA, .inl (cI, 2000, .inl (aN tx1))), (rA, .inr (2, [.int (nI st1), .int (nI nm1), .int (nI nu1)]))]) (wn := fun u => [(dA, .inr (0, [.ref hA, .int (nI 0), .ref eA, .ref rA, .int (nI fa1), .int fp1, .int (nI op1), .ref oA, .int (nI ol), .ref pA, .int (nI ml), .int (nI me), .int pu, .int (nI de)])), (hA, .inl (cI, 400, .inl (aN hand))), (eA, .inr (1, [.ref wA, .ref sA, .ref lA, .int u.2.2.2, .int (nI u.2.2.1), .int (nI dr1)])), (wA, .inl (cI, 2000, .inl (aN tx1))), (sA, .inl (cI, 26, .inl (aN u.1))), (lA, .inl (cI, 26, .inl (aM u.2.1))), (rA, .inr (2, [.int (nI st1), .int (nI nm1), .int (nI nu1)]))]) C Z (c_Ents_keepDraft l D cI cZ eA wA sA lA dl kept dr1 sf ln k (by first | assumption | omega)) k_Desk_80 rfl ⟨by rw [hR]; decide, by rw [hR]; decide⟩ ⟨rfl, rfl⟩ [2, 4, 5] [0, 1, 3, 6] [0, 1, 4, 2, 5, 6, 3] (by decide) rfl rfl (by decide) (by decide) (by decide) (fun _ => rfl) 2 rfl rfl hl.1 rfl (Nat.le_of_ble_eq_true rfl) d_Desk_declare_75 ⟨Nat.zero_le _, Nat.zero_le _⟩ (fun u H locs hp Z => ?_)
      have hp := hp.symm; subst hp
      have Z : Wd D A s.heap [(dA, .inr (0, [.ref hA, .int (nI 0), .ref eA, .ref rA, .int (nI fa1), .int fp1, .int (nI op1), .ref oA, .int (nI ol), .ref pA, .int (nI ml), .int (nI me), .int pu, .int (nI de)])), (hA, .inl (cI, 400, .inl (aN hand))), (eA, .inr (1, [.ref wA, .ref sA, .ref lA, .int (dl + nI 1), .int (nI (kept + dr1)), .int (nI dr1)])), (wA, .inl (cI, 2000, .inl (aN tx1))), (sA, .inl (cI, 26, .inl (aN (updN sf k kept)))), (lA, .inl (cI, 26, .inl (aM (updN ln k (dr1 + 1))))), (rA, .inr (2, [.int (nI st1), .int (nI nm1), .int (nI nu1)]))] H locs := Z
      refine lv_aload_n C.1 C.2.1 d_Desk_declare_78 rfl (lv_at hl 1 rfl) ?_
      refine r_get C Z 0 f_Desk_20 rfl rfl d_Desk_declare_79 ?_
      refine lv_iload_n C.1 C.2.1 d_Desk_declare_82 rfl (lv_at hl 2 rfl) ?_
      refine r_callNi (rest := []) (wr := [(dA, .inr (0, [.ref hA, .int (nI 0), .ref eA, .ref rA, .int (nI fa1), .int fp1, .int (nI op1), .ref oA, .int (nI ol), .ref pA, .int (nI ml), .int (nI me), .int pu, .int (nI de)])), (hA, .inl (cI, 400, .inl (aN hand))), (wA, .inl (cI, 2000, .inl (aN tx1))), (sA, .inl (cI, 26, .inl (aN (updN sf k kept)))), (rA, .inr (2, [.int (nI st1), .int (nI nm1), .int (nI nu1)]))]) (wn := fun u => [(dA, .inr (0, [.ref hA, .int (nI 0), .ref eA, .ref rA, .int (nI fa1), .int fp1, .int (nI op1), .ref oA, .int (nI ol), .ref pA, .int (nI ml), .int (nI me), .int pu, .int (nI de)])), (hA, .inl (cI, 400, .inl (aN hand))), (eA, .inr (1, [.ref wA, .ref sA, .ref lA, .int (dl + nI 1), .int (nI (kept + dr1)), .int (nI dr1)])), (wA, .inl (cI, 2000, .inl (aN tx1))), (sA, .inl (cI, 26, .inl (aN (updN sf k kept)))), (lA, .inl (cI, 26, .inl (aM (updN ln k (dr1 + 1))))), (rA, .inr (2, [.int (nI st1), .int (nI nm1), .int (nI nu1)]))]) C Z (c_Ents_lengthOf l D cI cZ eA wA sA lA (dl + nI 1) (kept + dr1) dr1 (updN ln k (dr1 + 1)) k (by first | assumption | omega) (by unfold updN; rw [if_pos rfl]; omega)) k_Desk_83 rfl ⟨by rw [hR]; decide, by rw [hR]; decide⟩ ⟨rfl, rfl⟩ [2, 5] [0, 1, 3, 4, 6] [0, 1, 5, 2, 3, 6, 4] (by decide) rfl rfl (by decide) (by decide) (by decide) (fun _ => rfl) 2 rfl rfl hl.1 rfl (Nat.le_of_ble_eq_true rfl) d_Desk_declare_83 ⟨Nat.zero_le _, Nat.zero_le _⟩ (fun r u H locs hp Z => ?_)
      obtain ⟨hp1, hp2⟩ := hp; have hp1 := hp1.symm; have hp2 := hp2.symm; subst hp1; subst hp2
      have Z : Wd D A s.heap [(dA, .inr (0, [.ref hA, .int (nI 0), .ref eA, .ref rA, .int (nI fa1), .int fp1, .int (nI op1), .ref oA, .int (nI ol), .ref pA, .int (nI ml), .int (nI me), .int pu, .int (nI de)])), (hA, .inl (cI, 400, .inl (aN hand))), (eA, .inr (1, [.ref wA, .ref sA, .ref lA, .int (dl + nI 1), .int (nI (kept + dr1)), .int (nI dr1)])), (wA, .inl (cI, 2000, .inl (aN tx1))), (sA, .inl (cI, 26, .inl (aN (updN sf k kept)))), (lA, .inl (cI, 26, .inl (aM (updN ln k (dr1 + 1))))), (rA, .inr (2, [.int (nI st1), .int (nI nm1), .int (nI nu1)]))] H locs := Z
      exact r_iret C Z ((fa1, fp1, op1, tx1, dr1, st1, nm1, nu1), (updN sf k kept, updN ln k (dr1 + 1), kept + dr1, dl + nI 1)) (by clear C Z hl; rw [← e1]; unfold declR declS; dsimp only; first | (rw [if_pos (by omega), if_neg (by omega)]; exact ⟨rfl, rfl⟩) | (rw [if_neg (by omega), if_pos (by omega), if_neg (by omega)]; exact ⟨rfl, rfl⟩) | (rw [if_neg (by omega), if_neg (by omega), if_pos (by omega)]; refine ⟨?_, rfl⟩; congr 1; unfold updN; rw [if_pos rfl]; omega)) rfl hQ d_Desk_declare_86
    · skip
      refine lv_bipush (v := (-101)) C.1 C.2.1 d_Desk_declare_67 (by decide) ?_
      exact r_iret C Z ((fa1, fp1, op1, tx1, dr1, st1, nm1, nu1), (sf, ln, kept, dl)) (by clear C Z hl; rw [← e1]; unfold declR declS; dsimp only; first | (rw [if_pos (by omega), if_neg (by omega)]; exact ⟨rfl, rfl⟩) | (rw [if_neg (by omega), if_pos (by omega), if_neg (by omega)]; exact ⟨rfl, rfl⟩) | (rw [if_neg (by omega), if_neg (by omega), if_pos (by omega)]; refine ⟨?_, rfl⟩; congr 1; unfold updN; rw [if_pos rfl]; omega)) rfl hQ d_Desk_declare_69
  · skip
    refine lv_iconst (v := (-1)) C.1 C.2.1 d_Desk_declare_50 (by decide) ?_
    refine lv_aload_n C.1 C.2.1 d_Desk_declare_51 rfl (lv_at hl 1 rfl) ?_
    refine r_get C Z 0 f_Desk_31 rfl rfl d_Desk_declare_52 ?_
    refine lv_isub C.1 C.2.1 d_Desk_declare_55 ?_
    exact r_iret C Z ((fa1, fp1, op1, tx1, dr1, st1, nm1, nu1), (sf, ln, kept, dl)) (by clear C Z hl; rw [← e1]; unfold declR declS; dsimp only; first | (rw [if_pos (by omega), if_neg (by omega)]; exact ⟨rfl, rfl⟩) | (rw [if_neg (by omega), if_pos (by omega), if_neg (by omega)]; exact ⟨rfl, rfl⟩) | (rw [if_neg (by omega), if_neg (by omega), if_pos (by omega)]; refine ⟨?_, rfl⟩; congr 1; unfold updN; rw [if_pos rfl]; omega)) rfl hQ d_Desk_declare_56

set_option maxHeartbeats 4000000 in
set_option maxRecDepth 100000 in
theorem c_Desk_expandBad (l : Launch) (D : va_G) (cI cZ : ClassId) (dA hA eA rA oA pA : Nat) (n : Nat) (fa : Nat) (fp : Int32) (op : Nat) (ol : Nat) (ml : Nat) (me : Nat) (pu : Int32) (de : Nat) (x : Int32) (hx : x < 0 ∨ nI 100000 < x) : Mi l y_Desk_expand b_Desk_expand 3 (some .int) ({ frames := 0, cells := 0, slots := 0, locals := 0 } : Room) D cI cZ [.ref dA, .int x] [(dA, .inr (0, [.ref hA, .int (nI n), .ref eA, .ref rA, .int (nI fa), .int fp, .int (nI op), .ref oA, .int (nI ol), .ref pA, .int (nI ml), .int (nI me), .int pu, .int (nI de)]))] (fun (r : Int32) (u : Unit) => r = (-102) ∧ u = ()) (fun u : Unit => [(dA, .inr (0, [.ref hA, .int (nI n), .ref eA, .ref rA, .int (nI fa), .int fp, .int (nI op), .ref oA, .int (nI ol), .ref pA, .int (nI ml), .int (nI me), .int pu, .int (nI de)]))]) := by
  refine Mi.intro (by decide) (Nat.le_of_ble_eq_true rfl) ?_
  intro p e s m args below meth cd A ls R Q hR hQ C Z hl
  have hl : lv_has ls 3 [(0, .ref dA), (1, .int x)] := hl
  refine lv_iload_n C.1 C.2.1 d_Desk_expand_0 rfl (lv_at hl 1 rfl) ?_
  refine lv_if_lt (tgt := 10) C.1 C.2.1 d_Desk_expand_1 (by decide) (fun h1 => ?_) (fun h1 => ?_)
  · skip
    refine lv_bipush (v := (-102)) C.1 C.2.1 d_Desk_expand_10 (by decide) ?_
    exact r_iret C Z () (by first | exact ⟨rfl, rfl⟩ | (clear C Z hl; simp [h1]; done) | (clear C Z hl; grind)) rfl hQ d_Desk_expand_12
  · skip
    refine lv_iload_n C.1 C.2.1 d_Desk_expand_4 rfl (lv_at hl 1 rfl) ?_
    refine lv_ldc (v := nI 100000) C.1 C.2.1 C.2.2.2.2.2.1 (C.2.2.2.2.2.2.1 _ c_Desk_87) d_Desk_expand_5 ?_
    refine lv_icmp_le (tgt := 13) C.1 C.2.1 d_Desk_expand_7 (by decide) (fun h7 => ?_) (fun h7 => ?_)
    · skip
      exact (hx.elim (fun q => h1 q) (fun q => Int32.not_le.mpr q h7)).elim
    · skip
      refine lv_bipush (v := (-102)) C.1 C.2.1 d_Desk_expand_10 (by decide) ?_
      exact r_iret C Z () (by first | exact ⟨rfl, rfl⟩ | (clear C Z hl; simp [h1, h7]; done) | (clear C Z hl; grind)) rfl hQ d_Desk_expand_12

set_option maxHeartbeats 4000000 in
set_option maxRecDepth 100000 in
theorem c_Desk_expand (l : Launch) (D : va_G) (cI cZ : ClassId) (dA hA eA rA oA pA wA sA lA : Nat) (n : Nat) (fa : Nat) (fp : Int32) (op : Nat) (ol : Nat) (ml : Nat) (me : Nat) (pu : Int32) (de : Nat) (st : Nat) (nm : Nat) (nu : Nat) (dl : Int32) (kept : Nat) (dr : Nat) (tx : Nat → Nat) (sf : Nat → Nat) (ln : Nat → Nat) (hand : Nat → Nat) (out : Nat → Nat) (opn : Nat → Nat) (q : Nat) (hq : q ≤ 100000) (hE : gEnv tx sf ln q) (hnm : nm < 26) (hnu : nu ≤ 256) (hop : ∀ j, opn j ≤ 1) (hn : n ≤ 400) (hh : ∀ j, hand j < 256) : Mi l y_Desk_expand b_Desk_expand 3 (some .int) ({ frames := 42, cells := 0, slots := 0, locals := 1014 } : Room) D cI cZ [.ref dA, .int (nI q)] [(dA, .inr (0, [.ref hA, .int (nI n), .ref eA, .ref rA, .int (nI fa), .int fp, .int (nI op), .ref oA, .int (nI ol), .ref pA, .int (nI ml), .int (nI me), .int pu, .int (nI de)])), (hA, .inl (cI, 400, .inl (aN hand))), (eA, .inr (1, [.ref wA, .ref sA, .ref lA, .int dl, .int (nI kept), .int (nI dr)])), (wA, .inl (cI, 2000, .inl (aN tx))), (sA, .inl (cI, 26, .inl (aN sf))), (lA, .inl (cI, 26, .inl (aM ln))), (rA, .inr (2, [.int (nI st), .int (nI nm), .int (nI nu)])), (oA, .inl (cI, 3000, .inl (aN out))), (pA, .inl (cZ, 26, .inl (aN opn)))] (fun (r : Int32) (u : RS × Nat) => r = (expR (expG tx sf ln hand q n out opn nm nu)) ∧ u = ((expG tx sf ln hand q n out opn nm nu), expN (expG tx sf ln hand q n out opn nm nu))) (fun u : RS × Nat => [(dA, .inr (0, [.ref hA, .int (nI 0), .ref eA, .ref rA, .int (nI u.1.1), .int u.1.2.1, .int (nI u.1.2.2.1), .ref oA, .int (nI u.2), .ref pA, .int (nI q), .int (nI u.1.2.2.2.2.2.1), .int u.1.2.2.2.2.2.2.1, .int (nI u.1.2.2.2.2.2.2.2.1)])), (hA, .inl (cI, 400, .inl (aN hand))), (eA, .inr (1, [.ref wA, .ref sA, .ref lA, .int dl, .int (nI kept), .int (nI dr)])), (wA, .inl (cI, 2000, .inl (aN tx))), (sA, .inl (cI, 26, .inl (aN sf))), (lA, .inl (cI, 26, .inl (aM ln))), (rA, .inr (2, [.int (nI u.1.2.2.2.2.2.2.2.2.2.1), .int (nI u.1.2.2.2.2.2.2.2.2.2.2.1), .int (nI u.1.2.2.2.2.2.2.2.2.2.2.2)])), (oA, .inl (cI, 3000, .inl (aN u.1.2.2.2.1))), (pA, .inl (cZ, 26, .inl (aN u.1.2.2.2.2.2.2.2.2.1)))]) := by
  refine Mi.intro (by decide) (Nat.le_of_ble_eq_true rfl) ?_
  intro p e s m args below meth cd A ls R Q hR hQ C Z hl
  have hl : lv_has ls 3 [(0, .ref dA), (1, .int (nI q))] := hl
  refine lv_iload_n C.1 C.2.1 d_Desk_expand_0 rfl (lv_at hl 1 rfl) ?_
  refine r_zlt (tgt := 10) C d_Desk_expand_1 (by decide) (by omega) ?_
  refine lv_iload_n C.1 C.2.1 d_Desk_expand_4 rfl (lv_at hl 1 rfl) ?_
  refine lv_ldc (v := nI 100000) C.1 C.2.1 C.2.2.2.2.2.1 (C.2.2.2.2.2.2.1 _ c_Desk_87) d_Desk_expand_5 ?_
  refine r_le (tgt := 13) C d_Desk_expand_7 (by decide) (by omega) (by omega) (fun h7 => ?_) (fun h7 => (by omega : False).elim)
  refine lv_aload_n C.1 C.2.1 d_Desk_expand_13 rfl (lv_at hl 0 rfl) ?_
  refine r_get C Z 0 f_Desk_13 rfl rfl d_Desk_expand_14 ?_
  refine lv_istore_n (lv' := [(2, .int (nI n)), (0, .ref dA), (1, .int (nI q))]) C.1 C.2.1 d_Desk_expand_17 rfl hl (by decide) rfl (fun ls hl => ?_)
  refine lv_aload_n C.1 C.2.1 d_Desk_expand_18 rfl (lv_at hl 1 rfl) ?_
  refine lv_iconst (v := nI 0) C.1 C.2.1 d_Desk_expand_19 (by decide) ?_
  refine r_put (ws' := [(dA, .inr (0, [.ref hA, .int (nI 0), .ref eA, .ref rA, .int (nI fa), .int fp, .int (nI op), .ref oA, .int (nI ol), .ref pA, .int (nI ml), .int (nI me), .int pu, .int (nI de)])), (hA, .inl (cI, 400, .inl (aN hand))), (eA, .inr (1, [.ref wA, .ref sA, .ref lA, .int dl, .int (nI kept), .int (nI dr)])), (wA, .inl (cI, 2000, .inl (aN tx))), (sA, .inl (cI, 26, .inl (aN sf))), (lA, .inl (cI, 26, .inl (aM ln))), (rA, .inr (2, [.int (nI st), .int (nI nm), .int (nI nu)])), (oA, .inl (cI, 3000, .inl (aN out))), (pA, .inl (cZ, 26, .inl (aN opn)))]) C Z 0 f_Desk_13 rfl rfl rfl (Nat.le_of_ble_eq_true rfl) rfl d_Desk_expand_20 (fun H locs Z => ?_)
  refine lv_aload_n C.1 C.2.1 d_Desk_expand_23 rfl (lv_at hl 1 rfl) ?_
  refine r_callVv (rest := []) (wr := [(hA, .inl (cI, 400, .inl (aN hand))), (eA, .inr (1, [.ref wA, .ref sA, .ref lA, .int dl, .int (nI kept), .int (nI dr)])), (wA, .inl (cI, 2000, .inl (aN tx))), (sA, .inl (cI, 26, .inl (aN sf))), (lA, .inl (cI, 26, .inl (aM ln))), (oA, .inl (cI, 3000, .inl (aN out))), (pA, .inl (cZ, 26, .inl (aN opn)))]) (wn := fun u => [(dA, .inr (0, [.ref hA, .int (nI 0), .ref eA, .ref rA, .int (nI u.1), .int u.2.1, .int (nI u.2.2.1), .ref oA, .int (nI ol), .ref pA, .int (nI ml), .int (nI me), .int pu, .int (nI de)])), (hA, .inl (cI, 400, .inl (aN hand))), (eA, .inr (1, [.ref wA, .ref sA, .ref lA, .int dl, .int (nI kept), .int (nI dr)])), (wA, .inl (cI, 2000, .inl (aN tx))), (sA, .inl (cI, 26, .inl (aN sf))), (lA, .inl (cI, 26, .inl (aM ln))), (rA, .inr (2, [.int (nI u.2.2.2), .int (nI nm), .int (nI nu)])), (oA, .inl (cI, 3000, .inl (aN out))), (pA, .inl (cZ, 26, .inl (aN opn)))]) C Z (c_Desk_beginReading l D cI cZ dA hA eA rA oA pA 0 fa fp op ol ml me pu de st nm nu) k_Desk_66 rfl ⟨by rw [hR]; decide, by rw [hR]; decide⟩ ⟨rfl, rfl⟩ [0, 6] [1, 2, 3, 4, 5, 7, 8] [7, 0, 1, 2, 3, 4, 8, 5, 6] (by decide) rfl rfl (by decide) (by decide) (by decide) (fun _ => rfl) 0 rfl rfl hl.1 rfl (Nat.le_of_ble_eq_true rfl) d_Desk_expand_24 ⟨Nat.zero_le _, Nat.zero_le _⟩ (fun u H locs hp Z => ?_)
  have hp := hp.symm; subst hp
  have Z : Wd D A s.heap [(dA, .inr (0, [.ref hA, .int (nI 0), .ref eA, .ref rA, .int (nI 0), .int (-1), .int (nI 0), .ref oA, .int (nI ol), .ref pA, .int (nI ml), .int (nI me), .int pu, .int (nI de)])), (hA, .inl (cI, 400, .inl (aN hand))), (eA, .inr (1, [.ref wA, .ref sA, .ref lA, .int dl, .int (nI kept), .int (nI dr)])), (wA, .inl (cI, 2000, .inl (aN tx))), (sA, .inl (cI, 26, .inl (aN sf))), (lA, .inl (cI, 26, .inl (aM ln))), (rA, .inr (2, [.int (nI 0), .int (nI nm), .int (nI nu)])), (oA, .inl (cI, 3000, .inl (aN out))), (pA, .inl (cZ, 26, .inl (aN opn)))] H locs := Z
  refine lv_aload_n C.1 C.2.1 d_Desk_expand_27 rfl (lv_at hl 1 rfl) ?_
  refine lv_iconst (v := nI 0) C.1 C.2.1 d_Desk_expand_28 (by decide) ?_
  refine r_put (ws' := [(dA, .inr (0, [.ref hA, .int (nI 0), .ref eA, .ref rA, .int (nI 0), .int (-1), .int (nI 0), .ref oA, .int (nI 0), .ref pA, .int (nI ml), .int (nI me), .int pu, .int (nI de)])), (hA, .inl (cI, 400, .inl (aN hand))), (eA, .inr (1, [.ref wA, .ref sA, .ref lA, .int dl, .int (nI kept), .int (nI dr)])), (wA, .inl (cI, 2000, .inl (aN tx))), (sA, .inl (cI, 26, .inl (aN sf))), (lA, .inl (cI, 26, .inl (aM ln))), (rA, .inr (2, [.int (nI 0), .int (nI nm), .int (nI nu)])), (oA, .inl (cI, 3000, .inl (aN out))), (pA, .inl (cZ, 26, .inl (aN opn)))]) C Z 0 f_Desk_43 rfl rfl rfl (Nat.le_of_ble_eq_true rfl) rfl d_Desk_expand_29 (fun H locs Z => ?_)
  refine lv_aload_n C.1 C.2.1 d_Desk_expand_32 rfl (lv_at hl 1 rfl) ?_
  refine lv_iload_n C.1 C.2.1 d_Desk_expand_33 rfl (lv_at hl 2 rfl) ?_
  refine r_put (ws' := [(dA, .inr (0, [.ref hA, .int (nI 0), .ref eA, .ref rA, .int (nI 0), .int (-1), .int (nI 0), .ref oA, .int (nI 0), .ref pA, .int (nI q), .int (nI me), .int pu, .int (nI de)])), (hA, .inl (cI, 400, .inl (aN hand))), (eA, .inr (1, [.ref wA, .ref sA, .ref lA, .int dl, .int (nI kept), .int (nI dr)])), (wA, .inl (cI, 2000, .inl (aN tx))), (sA, .inl (cI, 26, .inl (aN sf))), (lA, .inl (cI, 26, .inl (aM ln))), (rA, .inr (2, [.int (nI 0), .int (nI nm), .int (nI nu)])), (oA, .inl (cI, 3000, .inl (aN out))), (pA, .inl (cZ, 26, .inl (aN opn)))]) C Z 0 f_Desk_50 rfl rfl rfl (Nat.le_of_ble_eq_true rfl) rfl d_Desk_expand_34 (fun H locs Z => ?_)
  refine lv_aload_n C.1 C.2.1 d_Desk_expand_37 rfl (lv_at hl 1 rfl) ?_
  refine lv_iconst (v := nI 0) C.1 C.2.1 d_Desk_expand_38 (by decide) ?_
  refine r_put (ws' := [(dA, .inr (0, [.ref hA, .int (nI 0), .ref eA, .ref rA, .int (nI 0), .int (-1), .int (nI 0), .ref oA, .int (nI 0), .ref pA, .int (nI q), .int (nI 0), .int pu, .int (nI de)])), (hA, .inl (cI, 400, .inl (aN hand))), (eA, .inr (1, [.ref wA, .ref sA, .ref lA, .int dl, .int (nI kept), .int (nI dr)])), (wA, .inl (cI, 2000, .inl (aN tx))), (sA, .inl (cI, 26, .inl (aN sf))), (lA, .inl (cI, 26, .inl (aM ln))), (rA, .inr (2, [.int (nI 0), .int (nI nm), .int (nI nu)])), (oA, .inl (cI, 3000, .inl (aN out))), (pA, .inl (cZ, 26, .inl (aN opn)))]) C Z 0 f_Desk_53 rfl rfl rfl (Nat.le_of_ble_eq_true rfl) rfl d_Desk_expand_39 (fun H locs Z => ?_)
  refine lv_aload_n C.1 C.2.1 d_Desk_expand_42 rfl (lv_at hl 1 rfl) ?_
  refine lv_iconst (v := nI 0) C.1 C.2.1 d_Desk_expand_43 (by decide) ?_
  refine r_put (ws' := [(dA, .inr (0, [.ref hA, .int (nI 0), .ref eA, .ref rA, .int (nI 0), .int (-1), .int (nI 0), .ref oA, .int (nI 0), .ref pA, .int (nI q), .int (nI 0), .int (nI 0), .int (nI de)])), (hA, .inl (cI, 400, .inl (aN hand))), (eA, .inr (1, [.ref wA, .ref sA, .ref lA, .int dl, .int (nI kept), .int (nI dr)])), (wA, .inl (cI, 2000, .inl (aN tx))), (sA, .inl (cI, 26, .inl (aN sf))), (lA, .inl (cI, 26, .inl (aM ln))), (rA, .inr (2, [.int (nI 0), .int (nI nm), .int (nI nu)])), (oA, .inl (cI, 3000, .inl (aN out))), (pA, .inl (cZ, 26, .inl (aN opn)))]) C Z 0 f_Desk_56 rfl rfl rfl (Nat.le_of_ble_eq_true rfl) rfl d_Desk_expand_44 (fun H locs Z => ?_)
  refine lv_aload_n C.1 C.2.1 d_Desk_expand_47 rfl (lv_at hl 1 rfl) ?_
  refine lv_iconst (v := nI 0) C.1 C.2.1 d_Desk_expand_48 (by decide) ?_
  refine r_put (ws' := [(dA, .inr (0, [.ref hA, .int (nI 0), .ref eA, .ref rA, .int (nI 0), .int (-1), .int (nI 0), .ref oA, .int (nI 0), .ref pA, .int (nI q), .int (nI 0), .int (nI 0), .int (nI 0)])), (hA, .inl (cI, 400, .inl (aN hand))), (eA, .inr (1, [.ref wA, .ref sA, .ref lA, .int dl, .int (nI kept), .int (nI dr)])), (wA, .inl (cI, 2000, .inl (aN tx))), (sA, .inl (cI, 26, .inl (aN sf))), (lA, .inl (cI, 26, .inl (aM ln))), (rA, .inr (2, [.int (nI 0), .int (nI nm), .int (nI nu)])), (oA, .inl (cI, 3000, .inl (aN out))), (pA, .inl (cZ, 26, .inl (aN opn)))]) C Z 0 f_Desk_59 rfl rfl rfl (Nat.le_of_ble_eq_true rfl) rfl d_Desk_expand_49 (fun H locs Z => ?_)
  refine lv_aload_n C.1 C.2.1 d_Desk_expand_52 rfl (lv_at hl 1 rfl) ?_
  refine lv_aload_n C.1 C.2.1 d_Desk_expand_53 rfl (lv_at hl 1 rfl) ?_
  refine r_get C Z 0 f_Desk_9 rfl rfl d_Desk_expand_54 ?_
  refine lv_iconst (v := nI 0) C.1 C.2.1 d_Desk_expand_57 (by decide) ?_
  refine lv_iload_n C.1 C.2.1 d_Desk_expand_58 rfl (lv_at hl 0 rfl) ?_
  refine lv_iconst (v := nI 0) C.1 C.2.1 d_Desk_expand_59 (by decide) ?_
  refine r_callVv (rest := []) (wr := []) (wn := fun u => [(dA, .inr (0, [.ref hA, .int (nI 0), .ref eA, .ref rA, .int (nI u.1), .int u.2.1, .int (nI u.2.2.1), .ref oA, .int (nI u.2.2.2.2.1), .ref pA, .int (nI q), .int (nI u.2.2.2.2.2.1), .int u.2.2.2.2.2.2.1, .int (nI u.2.2.2.2.2.2.2.1)])), (hA, .inl (cI, 400, .inl (aN hand))), (eA, .inr (1, [.ref wA, .ref sA, .ref lA, .int dl, .int (nI kept), .int (nI dr)])), (wA, .inl (cI, 2000, .inl (aN tx))), (sA, .inl (cI, 26, .inl (aN sf))), (lA, .inl (cI, 26, .inl (aM ln))), (rA, .inr (2, [.int (nI u.2.2.2.2.2.2.2.2.2.1), .int (nI u.2.2.2.2.2.2.2.2.2.2.1), .int (nI u.2.2.2.2.2.2.2.2.2.2.2)])), (oA, .inl (cI, 3000, .inl (aN u.2.2.2.1))), (pA, .inl (cZ, 26, .inl (aN u.2.2.2.2.2.2.2.2.1)))]) C Z (GZ_all l D cI cZ 12 dA hA eA rA oA pA wA sA lA 0 0 (-1) 0 0 q 0 (nI 0) 0 0 nm nu dl kept dr tx sf ln hand out opn 0 n hE ⟨by omega, by omega, by omega, by omega, by omega, hnm, hnu, hop⟩ rfl (by omega) (by omega) hh) k_Desk_88 rfl ⟨by rw [hR]; decide, by rw [hR]; decide⟩ ⟨rfl, rfl⟩ [0, 1, 2, 3, 4, 5, 6, 7, 8] [] [0, 1, 2, 3, 4, 5, 6, 7, 8] (by decide) rfl rfl (by decide) (by decide) (by decide) (fun _ => rfl) 0 rfl rfl hl.1 rfl (Nat.le_of_ble_eq_true rfl) d_Desk_expand_60 ⟨Nat.zero_le _, Nat.zero_le _⟩ (fun u H locs hp Z => ?_)
  obtain ⟨fa1, fp1, op1, out1, ol1, me1, pu1, de1, opn1, st1, nm1, nu1⟩ := u
  have e1 : (fa1, fp1, op1, out1, ol1, me1, pu1, de1, opn1, st1, nm1, nu1) = gOver (gInto tx sf ln q 12) 0 hand 0 n (0, (-1), 0, out, 0, 0, (nI 0), 0, opn, 0, nm, nu) := hp
  have Z : Wd D A s.heap [(dA, .inr (0, [.ref hA, .int (nI 0), .ref eA, .ref rA, .int (nI fa1), .int fp1, .int (nI op1), .ref oA, .int (nI ol1), .ref pA, .int (nI q), .int (nI me1), .int pu1, .int (nI de1)])), (hA, .inl (cI, 400, .inl (aN hand))), (eA, .inr (1, [.ref wA, .ref sA, .ref lA, .int dl, .int (nI kept), .int (nI dr)])), (wA, .inl (cI, 2000, .inl (aN tx))), (sA, .inl (cI, 26, .inl (aN sf))), (lA, .inl (cI, 26, .inl (aM ln))), (rA, .inr (2, [.int (nI st1), .int (nI nm1), .int (nI nu1)])), (oA, .inl (cI, 3000, .inl (aN out1))), (pA, .inl (cZ, 26, .inl (aN opn1)))] H locs := Z
  have hT : gOk (fa1, fp1, op1, out1, ol1, me1, pu1, de1, opn1, st1, nm1, nu1) := by rw [e1]; exact gOk_end (gOk_loop (gOk_into hE.2.2.2 12) _ _ _ ⟨by omega, by omega, by omega, by omega, by omega, hnm, hnu, hop⟩)
  obtain ⟨hfa1, hol1, -⟩ := hT
  refine lv_aload_n C.1 C.2.1 d_Desk_expand_63 rfl (lv_at hl 1 rfl) ?_
  refine r_get C Z 0 f_Desk_31 rfl rfl d_Desk_expand_64 ?_
  refine r_zeq (tgt := 82) C d_Desk_expand_67 (by decide) (by omega) (fun h67 => ?_) (fun h67 => ?_)
  · skip
    refine lv_aload_n C.1 C.2.1 d_Desk_expand_82 rfl (lv_at hl 1 rfl) ?_
    refine r_get C Z 0 f_Desk_43 rfl rfl d_Desk_expand_83 ?_
    exact r_iret C Z ((fa1, fp1, op1, out1, ol1, me1, pu1, de1, opn1, st1, nm1, nu1), ol1) (by clear C Z hl; have e2 : _ = expG tx sf ln hand q n out opn nm nu := e1; rw [← e2]; unfold expR expN; dsimp only; first | (rw [if_pos (by omega), if_pos (by omega)]; exact ⟨rfl, rfl⟩) | (rw [if_neg (by omega), if_neg (by omega)]; exact ⟨rfl, rfl⟩)) rfl hQ d_Desk_expand_86
  · skip
    refine lv_aload_n C.1 C.2.1 d_Desk_expand_70 rfl (lv_at hl 1 rfl) ?_
    refine lv_iconst (v := nI 0) C.1 C.2.1 d_Desk_expand_71 (by decide) ?_
    refine r_put (ws' := [(dA, .inr (0, [.ref hA, .int (nI 0), .ref eA, .ref rA, .int (nI fa1), .int fp1, .int (nI op1), .ref oA, .int (nI 0), .ref pA, .int (nI q), .int (nI me1), .int pu1, .int (nI de1)])), (hA, .inl (cI, 400, .inl (aN hand))), (eA, .inr (1, [.ref wA, .ref sA, .ref lA, .int dl, .int (nI kept), .int (nI dr)])), (wA, .inl (cI, 2000, .inl (aN tx))), (sA, .inl (cI, 26, .inl (aN sf))), (lA, .inl (cI, 26, .inl (aM ln))), (rA, .inr (2, [.int (nI st1), .int (nI nm1), .int (nI nu1)])), (oA, .inl (cI, 3000, .inl (aN out1))), (pA, .inl (cZ, 26, .inl (aN opn1)))]) C Z 0 f_Desk_43 rfl rfl rfl (Nat.le_of_ble_eq_true rfl) rfl d_Desk_expand_72 (fun H locs Z => ?_)
    refine lv_iconst (v := (-1)) C.1 C.2.1 d_Desk_expand_75 (by decide) ?_
    refine lv_aload_n C.1 C.2.1 d_Desk_expand_76 rfl (lv_at hl 1 rfl) ?_
    refine r_get C Z 0 f_Desk_31 rfl rfl d_Desk_expand_77 ?_
    refine lv_isub C.1 C.2.1 d_Desk_expand_80 ?_
    exact r_iret C Z ((fa1, fp1, op1, out1, ol1, me1, pu1, de1, opn1, st1, nm1, nu1), 0) (by clear C Z hl; have e2 : _ = expG tx sf ln hand q n out opn nm nu := e1; rw [← e2]; unfold expR expN; dsimp only; first | (rw [if_pos (by omega), if_pos (by omega)]; exact ⟨rfl, rfl⟩) | (rw [if_neg (by omega), if_neg (by omega)]; exact ⟨rfl, rfl⟩)) rfl hQ d_Desk_expand_81

set_option maxHeartbeats 4000000 in
set_option maxRecDepth 100000 in
theorem c_Desk_place (l : Launch) (D : va_G) (cI cZ : ClassId) (dA hA eA rA oA pA : Nat) (n : Nat) (fa : Nat) (fp : Int32) (op : Nat) (ol : Nat) (ml : Nat) (me : Nat) (pu : Int32) (de : Nat) : Mi l y_Desk_place b_Desk_place 1 (some .int) ({ frames := 0, cells := 0, slots := 0, locals := 0 } : Room) D cI cZ [.ref dA] [(dA, .inr (0, [.ref hA, .int (nI n), .ref eA, .ref rA, .int (nI fa), .int fp, .int (nI op), .ref oA, .int (nI ol), .ref pA, .int (nI ml), .int (nI me), .int pu, .int (nI de)]))] (fun (r : Int32) (u : Unit) => r = fp ∧ u = ()) (fun u : Unit => [(dA, .inr (0, [.ref hA, .int (nI n), .ref eA, .ref rA, .int (nI fa), .int fp, .int (nI op), .ref oA, .int (nI ol), .ref pA, .int (nI ml), .int (nI me), .int pu, .int (nI de)]))]) := by
  refine Mi.intro (by decide) (Nat.le_of_ble_eq_true rfl) ?_
  intro p e s m args below meth cd A ls R Q hR hQ C Z hl
  have hl : lv_has ls 1 [(0, .ref dA)] := hl
  refine lv_aload_n C.1 C.2.1 d_Desk_place_0 rfl (lv_at hl 0 rfl) ?_
  refine r_get C Z 0 f_Desk_34 rfl rfl d_Desk_place_1 ?_
  exact r_iret C Z () (by first | exact ⟨rfl, rfl⟩ | (clear C Z hl; grind)) rfl hQ d_Desk_place_4

set_option maxHeartbeats 4000000 in
set_option maxRecDepth 100000 in
theorem c_Desk_given (l : Launch) (D : va_G) (cI cZ : ClassId) (dA hA eA rA oA pA : Nat) (n : Nat) (fa : Nat) (fp : Int32) (op : Nat) (ol : Nat) (ml : Nat) (me : Nat) (pu : Int32) (de : Nat) (out : Nat → Nat) (i : Nat) (hi : i < ol) (hol : ol ≤ 3000) : Mi l y_Desk_given b_Desk_given 2 (some .int) ({ frames := 0, cells := 0, slots := 0, locals := 0 } : Room) D cI cZ [.ref dA, .int (nI i)] [(dA, .inr (0, [.ref hA, .int (nI n), .ref eA, .ref rA, .int (nI fa), .int fp, .int (nI op), .ref oA, .int (nI ol), .ref pA, .int (nI ml), .int (nI me), .int pu, .int (nI de)])), (oA, .inl (cI, 3000, .inl (aN out)))] (fun (r : Int32) (u : Unit) => r = nI (out i) ∧ u = ()) (fun u : Unit => [(dA, .inr (0, [.ref hA, .int (nI n), .ref eA, .ref rA, .int (nI fa), .int fp, .int (nI op), .ref oA, .int (nI ol), .ref pA, .int (nI ml), .int (nI me), .int pu, .int (nI de)])), (oA, .inl (cI, 3000, .inl (aN out)))]) := by
  refine Mi.intro (by decide) (Nat.le_of_ble_eq_true rfl) ?_
  intro p e s m args below meth cd A ls R Q hR hQ C Z hl
  have hl : lv_has ls 2 [(0, .ref dA), (1, .int (nI i))] := hl
  refine lv_iload_n C.1 C.2.1 d_Desk_given_0 rfl (lv_at hl 1 rfl) ?_
  refine r_zlt (tgt := 21) C d_Desk_given_1 (by decide) (by omega) ?_
  refine lv_iload_n C.1 C.2.1 d_Desk_given_4 rfl (lv_at hl 1 rfl) ?_
  refine lv_aload_n C.1 C.2.1 d_Desk_given_5 rfl (lv_at hl 0 rfl) ?_
  refine r_get C Z 0 f_Desk_43 rfl rfl d_Desk_given_6 ?_
  refine r_ge (tgt := 21) C d_Desk_given_9 (by decide) (by omega) (by omega) (fun h9 => (by omega : False).elim) (fun h9 => ?_)
  refine lv_aload_n C.1 C.2.1 d_Desk_given_12 rfl (lv_at hl 0 rfl) ?_
  refine r_get C Z 0 f_Desk_40 rfl rfl d_Desk_given_13 ?_
  refine lv_iload_n C.1 C.2.1 d_Desk_given_16 rfl (lv_at hl 1 rfl) ?_
  refine r_ildN C Z 1 rfl (by omega) (by decide) d_Desk_given_17 ?_
  refine lv_goto (tgt := 22) C.1 C.2.1 d_Desk_given_18 (by decide) ?_
  exact r_iret C Z () (by first | exact ⟨rfl, rfl⟩ | (clear C Z hl; simp [h9]; done) | (clear C Z hl; grind)) rfl hQ d_Desk_given_22

set_option maxHeartbeats 4000000 in
set_option maxRecDepth 100000 in
theorem c_Desk_givenBad (l : Launch) (D : va_G) (cI cZ : ClassId) (dA hA eA rA oA pA : Nat) (n : Nat) (fa : Nat) (fp : Int32) (op : Nat) (ol : Nat) (ml : Nat) (me : Nat) (pu : Int32) (de : Nat) (x : Int32) (hx : x < 0 ∨ nI ol ≤ x) : Mi l y_Desk_given b_Desk_given 2 (some .int) ({ frames := 0, cells := 0, slots := 0, locals := 0 } : Room) D cI cZ [.ref dA, .int x] [(dA, .inr (0, [.ref hA, .int (nI n), .ref eA, .ref rA, .int (nI fa), .int fp, .int (nI op), .ref oA, .int (nI ol), .ref pA, .int (nI ml), .int (nI me), .int pu, .int (nI de)]))] (fun (r : Int32) (u : Unit) => r = (-1) ∧ u = ()) (fun u : Unit => [(dA, .inr (0, [.ref hA, .int (nI n), .ref eA, .ref rA, .int (nI fa), .int fp, .int (nI op), .ref oA, .int (nI ol), .ref pA, .int (nI ml), .int (nI me), .int pu, .int (nI de)]))]) := by
  refine Mi.intro (by decide) (Nat.le_of_ble_eq_true rfl) ?_
  intro p e s m args below meth cd A ls R Q hR hQ C Z hl
  have hl : lv_has ls 2 [(0, .ref dA), (1, .int x)] := hl
  refine lv_iload_n C.1 C.2.1 d_Desk_given_0 rfl (lv_at hl 1 rfl) ?_
  refine lv_if_lt (tgt := 21) C.1 C.2.1 d_Desk_given_1 (by decide) (fun h1 => ?_) (fun h1 => ?_)
  · skip
    refine lv_iconst (v := (-1)) C.1 C.2.1 d_Desk_given_21 (by decide) ?_
    exact r_iret C Z () (by first | exact ⟨rfl, rfl⟩ | (clear C Z hl; simp [h1]; done) | (clear C Z hl; grind)) rfl hQ d_Desk_given_22
  · skip
    refine lv_iload_n C.1 C.2.1 d_Desk_given_4 rfl (lv_at hl 1 rfl) ?_
    refine lv_aload_n C.1 C.2.1 d_Desk_given_5 rfl (lv_at hl 0 rfl) ?_
    refine r_get C Z 0 f_Desk_43 rfl rfl d_Desk_given_6 ?_
    refine lv_icmp_ge (tgt := 21) C.1 C.2.1 d_Desk_given_9 (by decide) (fun h9 => ?_) (fun h9 => ?_)
    · skip
      refine lv_iconst (v := (-1)) C.1 C.2.1 d_Desk_given_21 (by decide) ?_
      exact r_iret C Z () (by first | exact ⟨rfl, rfl⟩ | (clear C Z hl; simp [h1, h9]; done) | (clear C Z hl; grind)) rfl hQ d_Desk_given_22
    · skip
      exact (hx.elim (fun q => h1 q) (fun q => h9 q)).elim

set_option maxHeartbeats 4000000 in
set_option maxRecDepth 100000 in
theorem c_Desk_textBad (l : Launch) (D : va_G) (cI cZ : ClassId) (dA hA eA rA oA pA : Nat) (n : Nat) (fa : Nat) (fp : Int32) (op : Nat) (ol : Nat) (ml : Nat) (me : Nat) (pu : Int32) (de : Nat) (x : Int32) (y : Int32) (hx : x < 0 ∨ nI 26 ≤ x) : Mi l y_Desk_text b_Desk_text 3 (some .int) ({ frames := 1, cells := 0, slots := 0, locals := 20 } : Room) D cI cZ [.ref dA, .int x, .int y] [(dA, .inr (0, [.ref hA, .int (nI n), .ref eA, .ref rA, .int (nI fa), .int fp, .int (nI op), .ref oA, .int (nI ol), .ref pA, .int (nI ml), .int (nI me), .int pu, .int (nI de)]))] (fun (r : Int32) (u : Unit) => r = (-1) ∧ u = ()) (fun u : Unit => [(dA, .inr (0, [.ref hA, .int (nI n), .ref eA, .ref rA, .int (nI fa), .int fp, .int (nI op), .ref oA, .int (nI ol), .ref pA, .int (nI ml), .int (nI me), .int pu, .int (nI de)]))]) := by
  refine Mi.intro (by decide) (Nat.le_of_ble_eq_true rfl) ?_
  intro p e s m args below meth cd A ls R Q hR hQ C Z hl
  have hl : lv_has ls 3 [(0, .ref dA), (1, .int x), (2, .int y)] := hl
  refine lv_iload_n C.1 C.2.1 d_Desk_text_0 rfl (lv_at hl 1 rfl) ?_
  refine r_callSi (rest := []) (wr := [(dA, .inr (0, [.ref hA, .int (nI n), .ref eA, .ref rA, .int (nI fa), .int fp, .int (nI op), .ref oA, .int (nI ol), .ref pA, .int (nI ml), .int (nI me), .int pu, .int (nI de)]))]) (wn := fun u => [(dA, .inr (0, [.ref hA, .int (nI n), .ref eA, .ref rA, .int (nI fa), .int fp, .int (nI op), .ref oA, .int (nI ol), .ref pA, .int (nI ml), .int (nI me), .int pu, .int (nI de)]))]) C Z (c_Desk_isNameBad l D cI cZ x (by first | assumption | omega)) k_Desk_62 rfl ⟨by rw [hR]; decide, by rw [hR]; decide⟩ ⟨rfl, rfl⟩ [] [0] [0] (by decide) rfl rfl (by decide) (by decide) (by decide) (fun _ => rfl) hl.1 rfl (Nat.le_of_ble_eq_true rfl) d_Desk_text_1 ⟨Nat.zero_le _, Nat.zero_le _⟩ (fun r u H locs hp Z => ?_)
  obtain ⟨hp1, hp2⟩ := hp; have hp1 := hp1.symm; have hp2 := hp2.symm; subst hp1; subst hp2
  have Z : Wd D A s.heap [(dA, .inr (0, [.ref hA, .int (nI n), .ref eA, .ref rA, .int (nI fa), .int fp, .int (nI op), .ref oA, .int (nI ol), .ref pA, .int (nI ml), .int (nI me), .int pu, .int (nI de)]))] H locs := Z
  refine r_zeq (tgt := 18) C d_Desk_text_4 (by decide) (by omega) (fun h4 => ?_) (fun h4 => (by omega : False).elim)
  refine lv_iconst (v := (-1)) C.1 C.2.1 d_Desk_text_18 (by decide) ?_
  exact r_iret C Z () (by first | exact ⟨rfl, rfl⟩ | (clear C Z hl; simp [h4]; done) | (clear C Z hl; grind)) rfl hQ d_Desk_text_19

set_option maxHeartbeats 4000000 in
set_option maxRecDepth 100000 in
theorem c_Desk_textNone (l : Launch) (D : va_G) (cI cZ : ClassId) (dA hA eA rA oA pA wA sA lA : Nat) (n : Nat) (fa : Nat) (fp : Int32) (op : Nat) (ol : Nat) (ml : Nat) (me : Nat) (pu : Int32) (de : Nat) (dl : Int32) (kept : Nat) (dr : Nat) (ln : Nat → Nat) (k : Nat) (y : Int32) (hk : k < 26) (hln : ln k = 0) : Mi l y_Desk_text b_Desk_text 3 (some .int) ({ frames := 1, cells := 0, slots := 0, locals := 21 } : Room) D cI cZ [.ref dA, .int (nI k), .int y] [(dA, .inr (0, [.ref hA, .int (nI n), .ref eA, .ref rA, .int (nI fa), .int fp, .int (nI op), .ref oA, .int (nI ol), .ref pA, .int (nI ml), .int (nI me), .int pu, .int (nI de)])), (eA, .inr (1, [.ref wA, .ref sA, .ref lA, .int dl, .int (nI kept), .int (nI dr)])), (lA, .inl (cI, 26, .inl (aM ln)))] (fun (r : Int32) (u : Unit) => r = (-1) ∧ u = ()) (fun u : Unit => [(dA, .inr (0, [.ref hA, .int (nI n), .ref eA, .ref rA, .int (nI fa), .int fp, .int (nI op), .ref oA, .int (nI ol), .ref pA, .int (nI ml), .int (nI me), .int pu, .int (nI de)])), (eA, .inr (1, [.ref wA, .ref sA, .ref lA, .int dl, .int (nI kept), .int (nI dr)])), (lA, .inl (cI, 26, .inl (aM ln)))]) := by
  refine Mi.intro (by decide) (Nat.le_of_ble_eq_true rfl) ?_
  intro p e s m args below meth cd A ls R Q hR hQ C Z hl
  have hl : lv_has ls 3 [(0, .ref dA), (1, .int (nI k)), (2, .int y)] := hl
  refine lv_iload_n C.1 C.2.1 d_Desk_text_0 rfl (lv_at hl 1 rfl) ?_
  refine r_callSi (rest := []) (wr := [(dA, .inr (0, [.ref hA, .int (nI n), .ref eA, .ref rA, .int (nI fa), .int fp, .int (nI op), .ref oA, .int (nI ol), .ref pA, .int (nI ml), .int (nI me), .int pu, .int (nI de)])), (eA, .inr (1, [.ref wA, .ref sA, .ref lA, .int dl, .int (nI kept), .int (nI dr)])), (lA, .inl (cI, 26, .inl (aM ln)))]) (wn := fun u => [(dA, .inr (0, [.ref hA, .int (nI n), .ref eA, .ref rA, .int (nI fa), .int fp, .int (nI op), .ref oA, .int (nI ol), .ref pA, .int (nI ml), .int (nI me), .int pu, .int (nI de)])), (eA, .inr (1, [.ref wA, .ref sA, .ref lA, .int dl, .int (nI kept), .int (nI dr)])), (lA, .inl (cI, 26, .inl (aM ln)))]) C Z (c_Desk_isName l D cI cZ k (by first | assumption | omega)) k_Desk_62 rfl ⟨by rw [hR]; decide, by rw [hR]; decide⟩ ⟨rfl, rfl⟩ [] [0, 1, 2] [0, 1, 2] (by decide) rfl rfl (by decide) (by decide) (by decide) (fun _ => rfl) hl.1 rfl (Nat.le_of_ble_eq_true rfl) d_Desk_text_1 ⟨Nat.zero_le _, Nat.zero_le _⟩ (fun r u H locs hp Z => ?_)
  obtain ⟨hp1, hp2⟩ := hp; have hp1 := hp1.symm; have hp2 := hp2.symm; subst hp1; subst hp2
  have Z : Wd D A s.heap [(dA, .inr (0, [.ref hA, .int (nI n), .ref eA, .ref rA, .int (nI fa), .int fp, .int (nI op), .ref oA, .int (nI ol), .ref pA, .int (nI ml), .int (nI me), .int pu, .int (nI de)])), (eA, .inr (1, [.ref wA, .ref sA, .ref lA, .int dl, .int (nI kept), .int (nI dr)])), (lA, .inl (cI, 26, .inl (aM ln)))] H locs := Z
  refine r_zeq (tgt := 18) C d_Desk_text_4 (by decide) (by omega) (fun h4 => (by omega : False).elim) (fun h4 => ?_)
  refine lv_aload_n C.1 C.2.1 d_Desk_text_7 rfl (lv_at hl 0 rfl) ?_
  refine r_get C Z 0 f_Desk_20 rfl rfl d_Desk_text_8 ?_
  refine lv_iload_n C.1 C.2.1 d_Desk_text_11 rfl (lv_at hl 1 rfl) ?_
  refine r_callNi (rest := []) (wr := [(dA, .inr (0, [.ref hA, .int (nI n), .ref eA, .ref rA, .int (nI fa), .int fp, .int (nI op), .ref oA, .int (nI ol), .ref pA, .int (nI ml), .int (nI me), .int pu, .int (nI de)]))]) (wn := fun u => [(dA, .inr (0, [.ref hA, .int (nI n), .ref eA, .ref rA, .int (nI fa), .int fp, .int (nI op), .ref oA, .int (nI ol), .ref pA, .int (nI ml), .int (nI me), .int pu, .int (nI de)])), (eA, .inr (1, [.ref wA, .ref sA, .ref lA, .int dl, .int (nI kept), .int (nI dr)])), (lA, .inl (cI, 26, .inl (aM ln)))]) C Z (c_Ents_has l D cI cZ eA wA sA lA dl kept dr ln k (by first | assumption | omega) (by omega)) k_Desk_69 rfl ⟨by rw [hR]; decide, by rw [hR]; decide⟩ ⟨rfl, rfl⟩ [1, 2] [0] [0, 1, 2] (by decide) rfl rfl (by decide) (by decide) (by decide) (fun _ => rfl) 1 rfl rfl hl.1 rfl (Nat.le_of_ble_eq_true rfl) d_Desk_text_12 ⟨Nat.zero_le _, Nat.zero_le _⟩ (fun r u H locs hp Z => ?_)
  obtain ⟨hp1, hp2⟩ := hp; have hp1 := hp1.symm; have hp2 := hp2.symm; subst hp1; subst hp2
  have Z : Wd D A s.heap [(dA, .inr (0, [.ref hA, .int (nI n), .ref eA, .ref rA, .int (nI fa), .int fp, .int (nI op), .ref oA, .int (nI ol), .ref pA, .int (nI ml), .int (nI me), .int pu, .int (nI de)])), (eA, .inr (1, [.ref wA, .ref sA, .ref lA, .int dl, .int (nI kept), .int (nI dr)])), (lA, .inl (cI, 26, .inl (aM ln)))] H locs := Z
  refine r_zne (tgt := 20) C d_Desk_text_15 (by decide) (by omega) (fun h15 => (by omega : False).elim) (fun h15 => ?_)
  refine lv_iconst (v := (-1)) C.1 C.2.1 d_Desk_text_18 (by decide) ?_
  exact r_iret C Z () (by first | exact ⟨rfl, rfl⟩ | (clear C Z hl; simp [h4, h15]; done) | (clear C Z hl; grind)) rfl hQ d_Desk_text_19

set_option maxHeartbeats 4000000 in
set_option maxRecDepth 100000 in
theorem c_Desk_textOut (l : Launch) (D : va_G) (cI cZ : ClassId) (dA hA eA rA oA pA wA sA lA : Nat) (n : Nat) (fa : Nat) (fp : Int32) (op : Nat) (ol : Nat) (ml : Nat) (me : Nat) (pu : Int32) (de : Nat) (dl : Int32) (kept : Nat) (dr : Nat) (ln : Nat → Nat) (k : Nat) (y : Int32) (hk : k < 26) (hln : ln k ≠ 0) (hln2 : ln k ≤ 2001) (hy : y < 0 ∨ nI (ln k - 1) ≤ y) : Mi l y_Desk_text b_Desk_text 3 (some .int) ({ frames := 1, cells := 0, slots := 0, locals := 21 } : Room) D cI cZ [.ref dA, .int (nI k), .int y] [(dA, .inr (0, [.ref hA, .int (nI n), .ref eA, .ref rA, .int (nI fa), .int fp, .int (nI op), .ref oA, .int (nI ol), .ref pA, .int (nI ml), .int (nI me), .int pu, .int (nI de)])), (eA, .inr (1, [.ref wA, .ref sA, .ref lA, .int dl, .int (nI kept), .int (nI dr)])), (lA, .inl (cI, 26, .inl (aM ln)))] (fun (r : Int32) (u : Unit) => r = (-1) ∧ u = ()) (fun u : Unit => [(dA, .inr (0, [.ref hA, .int (nI n), .ref eA, .ref rA, .int (nI fa), .int fp, .int (nI op), .ref oA, .int (nI ol), .ref pA, .int (nI ml), .int (nI me), .int pu, .int (nI de)])), (eA, .inr (1, [.ref wA, .ref sA, .ref lA, .int dl, .int (nI kept), .int (nI dr)])), (lA, .inl (cI, 26, .inl (aM ln)))]) := by
  refine Mi.intro (by decide) (Nat.le_of_ble_eq_true rfl) ?_
  intro p e s m args below meth cd A ls R Q hR hQ C Z hl
  have hl : lv_has ls 3 [(0, .ref dA), (1, .int (nI k)), (2, .int y)] := hl
  refine lv_iload_n C.1 C.2.1 d_Desk_text_0 rfl (lv_at hl 1 rfl) ?_
  refine r_callSi (rest := []) (wr := [(dA, .inr (0, [.ref hA, .int (nI n), .ref eA, .ref rA, .int (nI fa), .int fp, .int (nI op), .ref oA, .int (nI ol), .ref pA, .int (nI ml), .int (nI me), .int pu, .int (nI de)])), (eA, .inr (1, [.ref wA, .ref sA, .ref lA, .int dl, .int (nI kept), .int (nI dr)])), (lA, .inl (cI, 26, .inl (aM ln)))]) (wn := fun u => [(dA, .inr (0, [.ref hA, .int (nI n), .ref eA, .ref rA, .int (nI fa), .int fp, .int (nI op), .ref oA, .int (nI ol), .ref pA, .int (nI ml), .int (nI me), .int pu, .int (nI de)])), (eA, .inr (1, [.ref wA, .ref sA, .ref lA, .int dl, .int (nI kept), .int (nI dr)])), (lA, .inl (cI, 26, .inl (aM ln)))]) C Z (c_Desk_isName l D cI cZ k (by first | assumption | omega)) k_Desk_62 rfl ⟨by rw [hR]; decide, by rw [hR]; decide⟩ ⟨rfl, rfl⟩ [] [0, 1, 2] [0, 1, 2] (by decide) rfl rfl (by decide) (by decide) (by decide) (fun _ => rfl) hl.1 rfl (Nat.le_of_ble_eq_true rfl) d_Desk_text_1 ⟨Nat.zero_le _, Nat.zero_le _⟩ (fun r u H locs hp Z => ?_)
  obtain ⟨hp1, hp2⟩ := hp; have hp1 := hp1.symm; have hp2 := hp2.symm; subst hp1; subst hp2
  have Z : Wd D A s.heap [(dA, .inr (0, [.ref hA, .int (nI n), .ref eA, .ref rA, .int (nI fa), .int fp, .int (nI op), .ref oA, .int (nI ol), .ref pA, .int (nI ml), .int (nI me), .int pu, .int (nI de)])), (eA, .inr (1, [.ref wA, .ref sA, .ref lA, .int dl, .int (nI kept), .int (nI dr)])), (lA, .inl (cI, 26, .inl (aM ln)))] H locs := Z
  refine r_zeq (tgt := 18) C d_Desk_text_4 (by decide) (by omega) (fun h4 => (by omega : False).elim) (fun h4 => ?_)
  refine lv_aload_n C.1 C.2.1 d_Desk_text_7 rfl (lv_at hl 0 rfl) ?_
  refine r_get C Z 0 f_Desk_20 rfl rfl d_Desk_text_8 ?_
  refine lv_iload_n C.1 C.2.1 d_Desk_text_11 rfl (lv_at hl 1 rfl) ?_
  refine r_callNi (rest := []) (wr := [(dA, .inr (0, [.ref hA, .int (nI n), .ref eA, .ref rA, .int (nI fa), .int fp, .int (nI op), .ref oA, .int (nI ol), .ref pA, .int (nI ml), .int (nI me), .int pu, .int (nI de)]))]) (wn := fun u => [(dA, .inr (0, [.ref hA, .int (nI n), .ref eA, .ref rA, .int (nI fa), .int fp, .int (nI op), .ref oA, .int (nI ol), .ref pA, .int (nI ml), .int (nI me), .int pu, .int (nI de)])), (eA, .inr (1, [.ref wA, .ref sA, .ref lA, .int dl, .int (nI kept), .int (nI dr)])), (lA, .inl (cI, 26, .inl (aM ln)))]) C Z (c_Ents_has l D cI cZ eA wA sA lA dl kept dr ln k (by first | assumption | omega) (by omega)) k_Desk_69 rfl ⟨by rw [hR]; decide, by rw [hR]; decide⟩ ⟨rfl, rfl⟩ [1, 2] [0] [0, 1, 2] (by decide) rfl rfl (by decide) (by decide) (by decide) (fun _ => rfl) 1 rfl rfl hl.1 rfl (Nat.le_of_ble_eq_true rfl) d_Desk_text_12 ⟨Nat.zero_le _, Nat.zero_le _⟩ (fun r u H locs hp Z => ?_)
  obtain ⟨hp1, hp2⟩ := hp; have hp1 := hp1.symm; have hp2 := hp2.symm; subst hp1; subst hp2
  have Z : Wd D A s.heap [(dA, .inr (0, [.ref hA, .int (nI n), .ref eA, .ref rA, .int (nI fa), .int fp, .int (nI op), .ref oA, .int (nI ol), .ref pA, .int (nI ml), .int (nI me), .int pu, .int (nI de)])), (eA, .inr (1, [.ref wA, .ref sA, .ref lA, .int dl, .int (nI kept), .int (nI dr)])), (lA, .inl (cI, 26, .inl (aM ln)))] H locs := Z
  refine r_zne (tgt := 20) C d_Desk_text_15 (by decide) (by omega) (fun h15 => ?_) (fun h15 => (by omega : False).elim)
  refine lv_iload_n C.1 C.2.1 d_Desk_text_20 rfl (lv_at hl 2 rfl) ?_
  refine lv_if_lt (tgt := 48) C.1 C.2.1 d_Desk_text_21 (by decide) (fun h21 => ?_) (fun h21 => ?_)
  · skip
    refine lv_iconst (v := (-1)) C.1 C.2.1 d_Desk_text_48 (by decide) ?_
    exact r_iret C Z () (by first | exact ⟨rfl, rfl⟩ | (clear C Z hl; simp [h4, h15, h21]; done) | (clear C Z hl; grind)) rfl hQ d_Desk_text_49
  · skip
    refine lv_iload_n C.1 C.2.1 d_Desk_text_24 rfl (lv_at hl 2 rfl) ?_
    refine lv_aload_n C.1 C.2.1 d_Desk_text_25 rfl (lv_at hl 0 rfl) ?_
    refine r_get C Z 0 f_Desk_20 rfl rfl d_Desk_text_26 ?_
    refine lv_iload_n C.1 C.2.1 d_Desk_text_29 rfl (lv_at hl 1 rfl) ?_
    refine r_callNi (rest := [.int y]) (wr := [(dA, .inr (0, [.ref hA, .int (nI n), .ref eA, .ref rA, .int (nI fa), .int fp, .int (nI op), .ref oA, .int (nI ol), .ref pA, .int (nI ml), .int (nI me), .int pu, .int (nI de)]))]) (wn := fun u => [(dA, .inr (0, [.ref hA, .int (nI n), .ref eA, .ref rA, .int (nI fa), .int fp, .int (nI op), .ref oA, .int (nI ol), .ref pA, .int (nI ml), .int (nI me), .int pu, .int (nI de)])), (eA, .inr (1, [.ref wA, .ref sA, .ref lA, .int dl, .int (nI kept), .int (nI dr)])), (lA, .inl (cI, 26, .inl (aM ln)))]) C Z (c_Ents_lengthOf l D cI cZ eA wA sA lA dl kept dr ln k (by first | assumption | omega) (by first | assumption | omega)) k_Desk_83 rfl ⟨by rw [hR]; decide, by rw [hR]; decide⟩ ⟨rfl, rfl⟩ [1, 2] [0] [0, 1, 2] (by decide) rfl rfl (by decide) (by decide) (by decide) (fun _ => rfl) 1 rfl rfl hl.1 rfl (Nat.le_of_ble_eq_true rfl) d_Desk_text_30 ⟨Nat.zero_le _, Nat.zero_le _⟩ (fun r u H locs hp Z => ?_)
    obtain ⟨hp1, hp2⟩ := hp; have hp1 := hp1.symm; have hp2 := hp2.symm; subst hp1; subst hp2
    have Z : Wd D A s.heap [(dA, .inr (0, [.ref hA, .int (nI n), .ref eA, .ref rA, .int (nI fa), .int fp, .int (nI op), .ref oA, .int (nI ol), .ref pA, .int (nI ml), .int (nI me), .int pu, .int (nI de)])), (eA, .inr (1, [.ref wA, .ref sA, .ref lA, .int dl, .int (nI kept), .int (nI dr)])), (lA, .inl (cI, 26, .inl (aM ln)))] H locs := Z
    refine lv_icmp_ge (tgt := 48) C.1 C.2.1 d_Desk_text_33 (by decide) (fun h33 => ?_) (fun h33 => ?_)
    · skip
      refine lv_iconst (v := (-1)) C.1 C.2.1 d_Desk_text_48 (by decide) ?_
      exact r_iret C Z () (by first | exact ⟨rfl, rfl⟩ | (clear C Z hl; simp [h4, h15, h21, h33]; done) | (clear C Z hl; grind)) rfl hQ d_Desk_text_49
    · skip
      exact (hy.elim (fun q => h21 q) (fun q => h33 q)).elim

set_option maxHeartbeats 4000000 in
set_option maxRecDepth 100000 in
theorem c_Desk_text (l : Launch) (D : va_G) (cI cZ : ClassId) (dA hA eA rA oA pA wA sA lA : Nat) (n : Nat) (fa : Nat) (fp : Int32) (op : Nat) (ol : Nat) (ml : Nat) (me : Nat) (pu : Int32) (de : Nat) (dl : Int32) (kept : Nat) (dr : Nat) (tx : Nat → Nat) (sf : Nat → Nat) (ln : Nat → Nat) (k : Nat) (i : Nat) (hk : k < 26) (hln : ln k ≠ 0) (hln2 : ln k ≤ 2001) (hi : i < ln k - 1) (hsf : sf k + (ln k - 1) ≤ 2000) : Mi l y_Desk_text b_Desk_text 3 (some .int) ({ frames := 1, cells := 0, slots := 0, locals := 22 } : Room) D cI cZ [.ref dA, .int (nI k), .int (nI i)] [(dA, .inr (0, [.ref hA, .int (nI n), .ref eA, .ref rA, .int (nI fa), .int fp, .int (nI op), .ref oA, .int (nI ol), .ref pA, .int (nI ml), .int (nI me), .int pu, .int (nI de)])), (eA, .inr (1, [.ref wA, .ref sA, .ref lA, .int dl, .int (nI kept), .int (nI dr)])), (wA, .inl (cI, 2000, .inl (aN tx))), (sA, .inl (cI, 26, .inl (aN sf))), (lA, .inl (cI, 26, .inl (aM ln)))] (fun (r : Int32) (u : Unit) => r = nI (tx (sf k + i)) ∧ u = ()) (fun u : Unit => [(dA, .inr (0, [.ref hA, .int (nI n), .ref eA, .ref rA, .int (nI fa), .int fp, .int (nI op), .ref oA, .int (nI ol), .ref pA, .int (nI ml), .int (nI me), .int pu, .int (nI de)])), (eA, .inr (1, [.ref wA, .ref sA, .ref lA, .int dl, .int (nI kept), .int (nI dr)])), (wA, .inl (cI, 2000, .inl (aN tx))), (sA, .inl (cI, 26, .inl (aN sf))), (lA, .inl (cI, 26, .inl (aM ln)))]) := by
  refine Mi.intro (by decide) (Nat.le_of_ble_eq_true rfl) ?_
  intro p e s m args below meth cd A ls R Q hR hQ C Z hl
  have hl : lv_has ls 3 [(0, .ref dA), (1, .int (nI k)), (2, .int (nI i))] := hl
  refine lv_iload_n C.1 C.2.1 d_Desk_text_0 rfl (lv_at hl 1 rfl) ?_
  refine r_callSi (rest := []) (wr := [(dA, .inr (0, [.ref hA, .int (nI n), .ref eA, .ref rA, .int (nI fa), .int fp, .int (nI op), .ref oA, .int (nI ol), .ref pA, .int (nI ml), .int (nI me), .int pu, .int (nI de)])), (eA, .inr (1, [.ref wA, .ref sA, .ref lA, .int dl, .int (nI kept), .int (nI dr)])), (wA, .inl (cI, 2000, .inl (aN tx))), (sA, .inl (cI, 26, .inl (aN sf))), (lA, .inl (cI, 26, .inl (aM ln)))]) (wn := fun u => [(dA, .inr (0, [.ref hA, .int (nI n), .ref eA, .ref rA, .int (nI fa), .int fp, .int (nI op), .ref oA, .int (nI ol), .ref pA, .int (nI ml), .int (nI me), .int pu, .int (nI de)])), (eA, .inr (1, [.ref wA, .ref sA, .ref lA, .int dl, .int (nI kept), .int (nI dr)])), (wA, .inl (cI, 2000, .inl (aN tx))), (sA, .inl (cI, 26, .inl (aN sf))), (lA, .inl (cI, 26, .inl (aM ln)))]) C Z (c_Desk_isName l D cI cZ k (by first | assumption | omega)) k_Desk_62 rfl ⟨by rw [hR]; decide, by rw [hR]; decide⟩ ⟨rfl, rfl⟩ [] [0, 1, 2, 3, 4] [0, 1, 2, 3, 4] (by decide) rfl rfl (by decide) (by decide) (by decide) (fun _ => rfl) hl.1 rfl (Nat.le_of_ble_eq_true rfl) d_Desk_text_1 ⟨Nat.zero_le _, Nat.zero_le _⟩ (fun r u H locs hp Z => ?_)
  obtain ⟨hp1, hp2⟩ := hp; have hp1 := hp1.symm; have hp2 := hp2.symm; subst hp1; subst hp2
  have Z : Wd D A s.heap [(dA, .inr (0, [.ref hA, .int (nI n), .ref eA, .ref rA, .int (nI fa), .int fp, .int (nI op), .ref oA, .int (nI ol), .ref pA, .int (nI ml), .int (nI me), .int pu, .int (nI de)])), (eA, .inr (1, [.ref wA, .ref sA, .ref lA, .int dl, .int (nI kept), .int (nI dr)])), (wA, .inl (cI, 2000, .inl (aN tx))), (sA, .inl (cI, 26, .inl (aN sf))), (lA, .inl (cI, 26, .inl (aM ln)))] H locs := Z
  refine r_zeq (tgt := 18) C d_Desk_text_4 (by decide) (by omega) (fun h4 => (by omega : False).elim) (fun h4 => ?_)
  refine lv_aload_n C.1 C.2.1 d_Desk_text_7 rfl (lv_at hl 0 rfl) ?_
  refine r_get C Z 0 f_Desk_20 rfl rfl d_Desk_text_8 ?_
  refine lv_iload_n C.1 C.2.1 d_Desk_text_11 rfl (lv_at hl 1 rfl) ?_
  refine r_callNi (rest := []) (wr := [(dA, .inr (0, [.ref hA, .int (nI n), .ref eA, .ref rA, .int (nI fa), .int fp, .int (nI op), .ref oA, .int (nI ol), .ref pA, .int (nI ml), .int (nI me), .int pu, .int (nI de)])), (wA, .inl (cI, 2000, .inl (aN tx))), (sA, .inl (cI, 26, .inl (aN sf)))]) (wn := fun u => [(dA, .inr (0, [.ref hA, .int (nI n), .ref eA, .ref rA, .int (nI fa), .int fp, .int (nI op), .ref oA, .int (nI ol), .ref pA, .int (nI ml), .int (nI me), .int pu, .int (nI de)])), (eA, .inr (1, [.ref wA, .ref sA, .ref lA, .int dl, .int (nI kept), .int (nI dr)])), (wA, .inl (cI, 2000, .inl (aN tx))), (sA, .inl (cI, 26, .inl (aN sf))), (lA, .inl (cI, 26, .inl (aM ln)))]) C Z (c_Ents_has l D cI cZ eA wA sA lA dl kept dr ln k (by first | assumption | omega) (by omega)) k_Desk_69 rfl ⟨by rw [hR]; decide, by rw [hR]; decide⟩ ⟨rfl, rfl⟩ [1, 4] [0, 2, 3] [0, 3, 1, 2, 4] (by decide) rfl rfl (by decide) (by decide) (by decide) (fun _ => rfl) 1 rfl rfl hl.1 rfl (Nat.le_of_ble_eq_true rfl) d_Desk_text_12 ⟨Nat.zero_le _, Nat.zero_le _⟩ (fun r u H locs hp Z => ?_)
  obtain ⟨hp1, hp2⟩ := hp; have hp1 := hp1.symm; have hp2 := hp2.symm; subst hp1; subst hp2
  have Z : Wd D A s.heap [(dA, .inr (0, [.ref hA, .int (nI n), .ref eA, .ref rA, .int (nI fa), .int fp, .int (nI op), .ref oA, .int (nI ol), .ref pA, .int (nI ml), .int (nI me), .int pu, .int (nI de)])), (eA, .inr (1, [.ref wA, .ref sA, .ref lA, .int dl, .int (nI kept), .int (nI dr)])), (wA, .inl (cI, 2000, .inl (aN tx))), (sA, .inl (cI, 26, .inl (aN sf))), (lA, .inl (cI, 26, .inl (aM ln)))] H locs := Z
  refine r_zne (tgt := 20) C d_Desk_text_15 (by decide) (by omega) (fun h15 => ?_) (fun h15 => (by omega : False).elim)
  refine lv_iload_n C.1 C.2.1 d_Desk_text_20 rfl (lv_at hl 2 rfl) ?_
  refine r_zlt (tgt := 48) C d_Desk_text_21 (by decide) (by omega) ?_
  refine lv_iload_n C.1 C.2.1 d_Desk_text_24 rfl (lv_at hl 2 rfl) ?_
  refine lv_aload_n C.1 C.2.1 d_Desk_text_25 rfl (lv_at hl 0 rfl) ?_
  refine r_get C Z 0 f_Desk_20 rfl rfl d_Desk_text_26 ?_
  refine lv_iload_n C.1 C.2.1 d_Desk_text_29 rfl (lv_at hl 1 rfl) ?_
  refine r_callNi (rest := [.int (nI i)]) (wr := [(dA, .inr (0, [.ref hA, .int (nI n), .ref eA, .ref rA, .int (nI fa), .int fp, .int (nI op), .ref oA, .int (nI ol), .ref pA, .int (nI ml), .int (nI me), .int pu, .int (nI de)])), (wA, .inl (cI, 2000, .inl (aN tx))), (sA, .inl (cI, 26, .inl (aN sf)))]) (wn := fun u => [(dA, .inr (0, [.ref hA, .int (nI n), .ref eA, .ref rA, .int (nI fa), .int fp, .int (nI op), .ref oA, .int (nI ol), .ref pA, .int (nI ml), .int (nI me), .int pu, .int (nI de)])), (eA, .inr (1, [.ref wA, .ref sA, .ref lA, .int dl, .int (nI kept), .int (nI dr)])), (wA, .inl (cI, 2000, .inl (aN tx))), (sA, .inl (cI, 26, .inl (aN sf))), (lA, .inl (cI, 26, .inl (aM ln)))]) C Z (c_Ents_lengthOf l D cI cZ eA wA sA lA dl kept dr ln k (by first | assumption | omega) (by first | assumption | omega)) k_Desk_83 rfl ⟨by rw [hR]; decide, by rw [hR]; decide⟩ ⟨rfl, rfl⟩ [1, 4] [0, 2, 3] [0, 3, 1, 2, 4] (by decide) rfl rfl (by decide) (by decide) (by decide) (fun _ => rfl) 1 rfl rfl hl.1 rfl (Nat.le_of_ble_eq_true rfl) d_Desk_text_30 ⟨Nat.zero_le _, Nat.zero_le _⟩ (fun r u H locs hp Z => ?_)
  obtain ⟨hp1, hp2⟩ := hp; have hp1 := hp1.symm; have hp2 := hp2.symm; subst hp1; subst hp2
  have Z : Wd D A s.heap [(dA, .inr (0, [.ref hA, .int (nI n), .ref eA, .ref rA, .int (nI fa), .int fp, .int (nI op), .ref oA, .int (nI ol), .ref pA, .int (nI ml), .int (nI me), .int pu, .int (nI de)])), (eA, .inr (1, [.ref wA, .ref sA, .ref lA, .int dl, .int (nI kept), .int (nI dr)])), (wA, .inl (cI, 2000, .inl (aN tx))), (sA, .inl (cI, 26, .inl (aN sf))), (lA, .inl (cI, 26, .inl (aM ln)))] H locs := Z
  refine r_ge (tgt := 48) C d_Desk_text_33 (by decide) (by omega) (by omega) (fun h33 => (by omega : False).elim) (fun h33 => ?_)
  refine lv_aload_n C.1 C.2.1 d_Desk_text_36 rfl (lv_at hl 0 rfl) ?_
  refine r_get C Z 0 f_Desk_20 rfl rfl d_Desk_text_37 ?_
  refine lv_iload_n C.1 C.2.1 d_Desk_text_40 rfl (lv_at hl 1 rfl) ?_
  refine lv_iload_n C.1 C.2.1 d_Desk_text_41 rfl (lv_at hl 2 rfl) ?_
  refine r_callNi (rest := []) (wr := [(dA, .inr (0, [.ref hA, .int (nI n), .ref eA, .ref rA, .int (nI fa), .int fp, .int (nI op), .ref oA, .int (nI ol), .ref pA, .int (nI ml), .int (nI me), .int pu, .int (nI de)])), (lA, .inl (cI, 26, .inl (aM ln)))]) (wn := fun u => [(dA, .inr (0, [.ref hA, .int (nI n), .ref eA, .ref rA, .int (nI fa), .int fp, .int (nI op), .ref oA, .int (nI ol), .ref pA, .int (nI ml), .int (nI me), .int pu, .int (nI de)])), (eA, .inr (1, [.ref wA, .ref sA, .ref lA, .int dl, .int (nI kept), .int (nI dr)])), (wA, .inl (cI, 2000, .inl (aN tx))), (sA, .inl (cI, 26, .inl (aN sf))), (lA, .inl (cI, 26, .inl (aM ln)))]) C Z (c_Ents_characterOf l D cI cZ eA wA sA lA dl kept dr tx sf k i (by first | assumption | omega) (by first | assumption | omega)) k_Desk_92 rfl ⟨by rw [hR]; decide, by rw [hR]; decide⟩ ⟨rfl, rfl⟩ [1, 2, 3] [0, 4] [0, 2, 3, 4, 1] (by decide) rfl rfl (by decide) (by decide) (by decide) (fun _ => rfl) 1 rfl rfl hl.1 rfl (Nat.le_of_ble_eq_true rfl) d_Desk_text_42 ⟨Nat.zero_le _, Nat.zero_le _⟩ (fun r u H locs hp Z => ?_)
  obtain ⟨hp1, hp2⟩ := hp; have hp1 := hp1.symm; have hp2 := hp2.symm; subst hp1; subst hp2
  have Z : Wd D A s.heap [(dA, .inr (0, [.ref hA, .int (nI n), .ref eA, .ref rA, .int (nI fa), .int fp, .int (nI op), .ref oA, .int (nI ol), .ref pA, .int (nI ml), .int (nI me), .int pu, .int (nI de)])), (eA, .inr (1, [.ref wA, .ref sA, .ref lA, .int dl, .int (nI kept), .int (nI dr)])), (wA, .inl (cI, 2000, .inl (aN tx))), (sA, .inl (cI, 26, .inl (aN sf))), (lA, .inl (cI, 26, .inl (aM ln)))] H locs := Z
  refine lv_goto (tgt := 49) C.1 C.2.1 d_Desk_text_45 (by decide) ?_
  exact r_iret C Z () (by first | exact ⟨rfl, rfl⟩ | (clear C Z hl; simp [h4, h15, h33]; done) | (clear C Z hl; grind)) rfl hQ d_Desk_text_49

set_option maxHeartbeats 4000000 in
set_option maxRecDepth 100000 in
theorem c_Desk_count0 (l : Launch) (D : va_G) (cI cZ : ClassId) (dA hA eA rA oA pA wA sA lA : Nat) (n : Nat) (fa : Nat) (fp : Int32) (op : Nat) (ol : Nat) (ml : Nat) (me : Nat) (pu : Int32) (de : Nat) (dl : Int32) (kept : Nat) (dr : Nat) : Mi l y_Desk_count b_Desk_count 2 (some .int) ({ frames := 0, cells := 0, slots := 0, locals := 0 } : Room) D cI cZ [.ref dA, .int (nI 0)] [(dA, .inr (0, [.ref hA, .int (nI n), .ref eA, .ref rA, .int (nI fa), .int fp, .int (nI op), .ref oA, .int (nI ol), .ref pA, .int (nI ml), .int (nI me), .int pu, .int (nI de)])), (eA, .inr (1, [.ref wA, .ref sA, .ref lA, .int dl, .int (nI kept), .int (nI dr)]))] (fun (r : Int32) (u : Unit) => r = dl ∧ u = ()) (fun u : Unit => [(dA, .inr (0, [.ref hA, .int (nI n), .ref eA, .ref rA, .int (nI fa), .int fp, .int (nI op), .ref oA, .int (nI ol), .ref pA, .int (nI ml), .int (nI me), .int pu, .int (nI de)])), (eA, .inr (1, [.ref wA, .ref sA, .ref lA, .int dl, .int (nI kept), .int (nI dr)]))]) := by
  refine Mi.intro (by decide) (Nat.le_of_ble_eq_true rfl) ?_
  intro p e s m args below meth cd A ls R Q hR hQ C Z hl
  have hl : lv_has ls 2 [(0, .ref dA), (1, .int (nI 0))] := hl
  refine lv_iload_n C.1 C.2.1 d_Desk_count_0 rfl (lv_at hl 1 rfl) ?_
  refine lv_tableIn (tgt := 40) (off := 39) C.1 C.2.1 d_Desk_count_1 (by decide) (by decide) (by decide) (by decide) ?_
  refine lv_aload_n C.1 C.2.1 d_Desk_count_40 rfl (lv_at hl 0 rfl) ?_
  refine r_get C Z 0 f_Desk_20 rfl rfl d_Desk_count_41 ?_
  refine r_getN C Z 1 f_Desk_96 rfl rfl d_Desk_count_44 ?_
  exact r_iret C Z () (by first | exact ⟨rfl, rfl⟩ | (clear C Z hl; grind)) rfl hQ d_Desk_count_47

set_option maxHeartbeats 4000000 in
set_option maxRecDepth 100000 in
theorem c_Desk_count1 (l : Launch) (D : va_G) (cI cZ : ClassId) (dA hA eA rA oA pA wA sA lA : Nat) (n : Nat) (fa : Nat) (fp : Int32) (op : Nat) (ol : Nat) (ml : Nat) (me : Nat) (pu : Int32) (de : Nat) (dl : Int32) (kept : Nat) (dr : Nat) : Mi l y_Desk_count b_Desk_count 2 (some .int) ({ frames := 0, cells := 0, slots := 0, locals := 0 } : Room) D cI cZ [.ref dA, .int (nI 1)] [(dA, .inr (0, [.ref hA, .int (nI n), .ref eA, .ref rA, .int (nI fa), .int fp, .int (nI op), .ref oA, .int (nI ol), .ref pA, .int (nI ml), .int (nI me), .int pu, .int (nI de)])), (eA, .inr (1, [.ref wA, .ref sA, .ref lA, .int dl, .int (nI kept), .int (nI dr)]))] (fun (r : Int32) (u : Unit) => r = nI kept ∧ u = ()) (fun u : Unit => [(dA, .inr (0, [.ref hA, .int (nI n), .ref eA, .ref rA, .int (nI fa), .int fp, .int (nI op), .ref oA, .int (nI ol), .ref pA, .int (nI ml), .int (nI me), .int pu, .int (nI de)])), (eA, .inr (1, [.ref wA, .ref sA, .ref lA, .int dl, .int (nI kept), .int (nI dr)]))]) := by
  refine Mi.intro (by decide) (Nat.le_of_ble_eq_true rfl) ?_
  intro p e s m args below meth cd A ls R Q hR hQ C Z hl
  have hl : lv_has ls 2 [(0, .ref dA), (1, .int (nI 1))] := hl
  refine lv_iload_n C.1 C.2.1 d_Desk_count_0 rfl (lv_at hl 1 rfl) ?_
  refine lv_tableIn (tgt := 48) (off := 47) C.1 C.2.1 d_Desk_count_1 (by decide) (by decide) (by decide) (by decide) ?_
  refine lv_aload_n C.1 C.2.1 d_Desk_count_48 rfl (lv_at hl 0 rfl) ?_
  refine r_get C Z 0 f_Desk_20 rfl rfl d_Desk_count_49 ?_
  refine r_getN C Z 1 f_Desk_99 rfl rfl d_Desk_count_52 ?_
  exact r_iret C Z () (by first | exact ⟨rfl, rfl⟩ | (clear C Z hl; grind)) rfl hQ d_Desk_count_55

set_option maxHeartbeats 4000000 in
set_option maxRecDepth 100000 in
theorem c_Desk_count2 (l : Launch) (D : va_G) (cI cZ : ClassId) (dA hA eA rA oA pA wA sA lA : Nat) (n : Nat) (fa : Nat) (fp : Int32) (op : Nat) (ol : Nat) (ml : Nat) (me : Nat) (pu : Int32) (de : Nat) (dl : Int32) (kept : Nat) (dr : Nat) : Mi l y_Desk_count b_Desk_count 2 (some .int) ({ frames := 0, cells := 0, slots := 0, locals := 0 } : Room) D cI cZ [.ref dA, .int (nI 2)] [(dA, .inr (0, [.ref hA, .int (nI n), .ref eA, .ref rA, .int (nI fa), .int fp, .int (nI op), .ref oA, .int (nI ol), .ref pA, .int (nI ml), .int (nI me), .int pu, .int (nI de)])), (eA, .inr (1, [.ref wA, .ref sA, .ref lA, .int dl, .int (nI kept), .int (nI dr)]))] (fun (r : Int32) (u : Unit) => r = nI me ∧ u = ()) (fun u : Unit => [(dA, .inr (0, [.ref hA, .int (nI n), .ref eA, .ref rA, .int (nI fa), .int fp, .int (nI op), .ref oA, .int (nI ol), .ref pA, .int (nI ml), .int (nI me), .int pu, .int (nI de)])), (eA, .inr (1, [.ref wA, .ref sA, .ref lA, .int dl, .int (nI kept), .int (nI dr)]))]) := by
  refine Mi.intro (by decide) (Nat.le_of_ble_eq_true rfl) ?_
  intro p e s m args below meth cd A ls R Q hR hQ C Z hl
  have hl : lv_has ls 2 [(0, .ref dA), (1, .int (nI 2))] := hl
  refine lv_iload_n C.1 C.2.1 d_Desk_count_0 rfl (lv_at hl 1 rfl) ?_
  refine lv_tableIn (tgt := 56) (off := 55) C.1 C.2.1 d_Desk_count_1 (by decide) (by decide) (by decide) (by decide) ?_
  refine lv_aload_n C.1 C.2.1 d_Desk_count_56 rfl (lv_at hl 0 rfl) ?_
  refine r_get C Z 0 f_Desk_53 rfl rfl d_Desk_count_57 ?_
  exact r_iret C Z () (by first | exact ⟨rfl, rfl⟩ | (clear C Z hl; grind)) rfl hQ d_Desk_count_60

set_option maxHeartbeats 4000000 in
set_option maxRecDepth 100000 in
theorem c_Desk_count3 (l : Launch) (D : va_G) (cI cZ : ClassId) (dA hA eA rA oA pA wA sA lA : Nat) (n : Nat) (fa : Nat) (fp : Int32) (op : Nat) (ol : Nat) (ml : Nat) (me : Nat) (pu : Int32) (de : Nat) (dl : Int32) (kept : Nat) (dr : Nat) : Mi l y_Desk_count b_Desk_count 2 (some .int) ({ frames := 0, cells := 0, slots := 0, locals := 0 } : Room) D cI cZ [.ref dA, .int (nI 3)] [(dA, .inr (0, [.ref hA, .int (nI n), .ref eA, .ref rA, .int (nI fa), .int fp, .int (nI op), .ref oA, .int (nI ol), .ref pA, .int (nI ml), .int (nI me), .int pu, .int (nI de)])), (eA, .inr (1, [.ref wA, .ref sA, .ref lA, .int dl, .int (nI kept), .int (nI dr)]))] (fun (r : Int32) (u : Unit) => r = nI n ∧ u = ()) (fun u : Unit => [(dA, .inr (0, [.ref hA, .int (nI n), .ref eA, .ref rA, .int (nI fa), .int fp, .int (nI op), .ref oA, .int (nI ol), .ref pA, .int (nI ml), .int (nI me), .int pu, .int (nI de)])), (eA, .inr (1, [.ref wA, .ref sA, .ref lA, .int dl, .int (nI kept), .int (nI dr)]))]) := by
  refine Mi.intro (by decide) (Nat.le_of_ble_eq_true rfl) ?_
  intro p e s m args below meth cd A ls R Q hR hQ C Z hl
  have hl : lv_has ls 2 [(0, .ref dA), (1, .int (nI 3))] := hl
  refine lv_iload_n C.1 C.2.1 d_Desk_count_0 rfl (lv_at hl 1 rfl) ?_
  refine lv_tableIn (tgt := 61) (off := 60) C.1 C.2.1 d_Desk_count_1 (by decide) (by decide) (by decide) (by decide) ?_
  refine lv_aload_n C.1 C.2.1 d_Desk_count_61 rfl (lv_at hl 0 rfl) ?_
  refine r_get C Z 0 f_Desk_13 rfl rfl d_Desk_count_62 ?_
  exact r_iret C Z () (by first | exact ⟨rfl, rfl⟩ | (clear C Z hl; grind)) rfl hQ d_Desk_count_65

set_option maxHeartbeats 4000000 in
set_option maxRecDepth 100000 in
theorem c_Desk_count4 (l : Launch) (D : va_G) (cI cZ : ClassId) (dA hA eA rA oA pA wA sA lA : Nat) (n : Nat) (fa : Nat) (fp : Int32) (op : Nat) (ol : Nat) (ml : Nat) (me : Nat) (pu : Int32) (de : Nat) (dl : Int32) (kept : Nat) (dr : Nat) : Mi l y_Desk_count b_Desk_count 2 (some .int) ({ frames := 0, cells := 0, slots := 0, locals := 0 } : Room) D cI cZ [.ref dA, .int (nI 4)] [(dA, .inr (0, [.ref hA, .int (nI n), .ref eA, .ref rA, .int (nI fa), .int fp, .int (nI op), .ref oA, .int (nI ol), .ref pA, .int (nI ml), .int (nI me), .int pu, .int (nI de)])), (eA, .inr (1, [.ref wA, .ref sA, .ref lA, .int dl, .int (nI kept), .int (nI dr)]))] (fun (r : Int32) (u : Unit) => r = pu ∧ u = ()) (fun u : Unit => [(dA, .inr (0, [.ref hA, .int (nI n), .ref eA, .ref rA, .int (nI fa), .int fp, .int (nI op), .ref oA, .int (nI ol), .ref pA, .int (nI ml), .int (nI me), .int pu, .int (nI de)])), (eA, .inr (1, [.ref wA, .ref sA, .ref lA, .int dl, .int (nI kept), .int (nI dr)]))]) := by
  refine Mi.intro (by decide) (Nat.le_of_ble_eq_true rfl) ?_
  intro p e s m args below meth cd A ls R Q hR hQ C Z hl
  have hl : lv_has ls 2 [(0, .ref dA), (1, .int (nI 4))] := hl
  refine lv_iload_n C.1 C.2.1 d_Desk_count_0 rfl (lv_at hl 1 rfl) ?_
  refine lv_tableIn (tgt := 66) (off := 65) C.1 C.2.1 d_Desk_count_1 (by decide) (by decide) (by decide) (by decide) ?_
  refine lv_aload_n C.1 C.2.1 d_Desk_count_66 rfl (lv_at hl 0 rfl) ?_
  refine r_get C Z 0 f_Desk_56 rfl rfl d_Desk_count_67 ?_
  exact r_iret C Z () (by first | exact ⟨rfl, rfl⟩ | (clear C Z hl; grind)) rfl hQ d_Desk_count_70

set_option maxHeartbeats 4000000 in
set_option maxRecDepth 100000 in
theorem c_Desk_count5 (l : Launch) (D : va_G) (cI cZ : ClassId) (dA hA eA rA oA pA wA sA lA : Nat) (n : Nat) (fa : Nat) (fp : Int32) (op : Nat) (ol : Nat) (ml : Nat) (me : Nat) (pu : Int32) (de : Nat) (dl : Int32) (kept : Nat) (dr : Nat) : Mi l y_Desk_count b_Desk_count 2 (some .int) ({ frames := 0, cells := 0, slots := 0, locals := 0 } : Room) D cI cZ [.ref dA, .int (nI 5)] [(dA, .inr (0, [.ref hA, .int (nI n), .ref eA, .ref rA, .int (nI fa), .int fp, .int (nI op), .ref oA, .int (nI ol), .ref pA, .int (nI ml), .int (nI me), .int pu, .int (nI de)])), (eA, .inr (1, [.ref wA, .ref sA, .ref lA, .int dl, .int (nI kept), .int (nI dr)]))] (fun (r : Int32) (u : Unit) => r = nI de ∧ u = ()) (fun u : Unit => [(dA, .inr (0, [.ref hA, .int (nI n), .ref eA, .ref rA, .int (nI fa), .int fp, .int (nI op), .ref oA, .int (nI ol), .ref pA, .int (nI ml), .int (nI me), .int pu, .int (nI de)])), (eA, .inr (1, [.ref wA, .ref sA, .ref lA, .int dl, .int (nI kept), .int (nI dr)]))]) := by
  refine Mi.intro (by decide) (Nat.le_of_ble_eq_true rfl) ?_
  intro p e s m args below meth cd A ls R Q hR hQ C Z hl
  have hl : lv_has ls 2 [(0, .ref dA), (1, .int (nI 5))] := hl
  refine lv_iload_n C.1 C.2.1 d_Desk_count_0 rfl (lv_at hl 1 rfl) ?_
  refine lv_tableIn (tgt := 71) (off := 70) C.1 C.2.1 d_Desk_count_1 (by decide) (by decide) (by decide) (by decide) ?_
  refine lv_aload_n C.1 C.2.1 d_Desk_count_71 rfl (lv_at hl 0 rfl) ?_
  refine r_get C Z 0 f_Desk_59 rfl rfl d_Desk_count_72 ?_
  exact r_iret C Z () (by first | exact ⟨rfl, rfl⟩ | (clear C Z hl; grind)) rfl hQ d_Desk_count_75

set_option maxHeartbeats 4000000 in
set_option maxRecDepth 100000 in
theorem c_Desk_countBad (l : Launch) (D : va_G) (cI cZ : ClassId) (dA hA eA rA oA pA : Nat) (n : Nat) (fa : Nat) (fp : Int32) (op : Nat) (ol : Nat) (ml : Nat) (me : Nat) (pu : Int32) (de : Nat) (x : Int32) (hx : x.toInt < 0 ∨ 5 < x.toInt) : Mi l y_Desk_count b_Desk_count 2 (some .int) ({ frames := 0, cells := 0, slots := 0, locals := 0 } : Room) D cI cZ [.ref dA, .int x] [(dA, .inr (0, [.ref hA, .int (nI n), .ref eA, .ref rA, .int (nI fa), .int fp, .int (nI op), .ref oA, .int (nI ol), .ref pA, .int (nI ml), .int (nI me), .int pu, .int (nI de)]))] (fun (r : Int32) (u : Unit) => r = (-1) ∧ u = ()) (fun u : Unit => [(dA, .inr (0, [.ref hA, .int (nI n), .ref eA, .ref rA, .int (nI fa), .int fp, .int (nI op), .ref oA, .int (nI ol), .ref pA, .int (nI ml), .int (nI me), .int pu, .int (nI de)]))]) := by
  refine Mi.intro (by decide) (Nat.le_of_ble_eq_true rfl) ?_
  intro p e s m args below meth cd A ls R Q hR hQ C Z hl
  have hl : lv_has ls 2 [(0, .ref dA), (1, .int x)] := hl
  refine lv_iload_n C.1 C.2.1 d_Desk_count_0 rfl (lv_at hl 1 rfl) ?_
  refine lv_tableOut (tgt := 76) C.1 C.2.1 d_Desk_count_1 hx (by decide) ?_
  refine lv_iconst (v := (-1)) C.1 C.2.1 d_Desk_count_76 (by decide) ?_
  exact r_iret C Z () (by first | exact ⟨rfl, rfl⟩ | (clear C Z hl; grind)) rfl hQ d_Desk_count_77
