set_option maxHeartbeats 4000000 in
set_option maxRecDepth 100000 in
theorem c_Ents_has (l : Launch) (D : va_G) (cI cZ : ClassId) (eA wA sA lA : Nat) (dl : Int32) (kept : Nat) (dr : Nat) (ln : Nat → Nat) (k : Nat) (hk : k < 26) (hln : ln k < 2 ^ 31) : Mi l y_Ents_has b_Ents_has 2 (some .boolean) ({ frames := 0, cells := 0, slots := 0, locals := 0 } : Room) D cI cZ [.ref eA, .int (nI k)] [(eA, .inr (1, [.ref wA, .ref sA, .ref lA, .int dl, .int (nI kept), .int (nI dr)])), (lA, .inl (cI, 26, .inl (aM ln)))] (fun (r : Int32) (u : Unit) => r = nI (min (ln k) 1) ∧ u = ()) (fun u : Unit => [(eA, .inr (1, [.ref wA, .ref sA, .ref lA, .int dl, .int (nI kept), .int (nI dr)])), (lA, .inl (cI, 26, .inl (aM ln)))]) := by
  refine Mi.intro (by decide) (Nat.le_of_ble_eq_true rfl) ?_
  intro p e s m args below meth cd A ls R Q hR hQ C Z hl
  have hl : lv_has ls 2 [(0, .ref eA), (1, .int (nI k))] := hl
  refine lv_aload_n C.1 C.2.1 d_Ents_has_0 rfl (lv_at hl 0 rfl) ?_
  refine r_get C Z 0 f_Ents_18 rfl rfl d_Ents_has_1 ?_
  refine lv_iload_n C.1 C.2.1 d_Ents_has_4 rfl (lv_at hl 1 rfl) ?_
  refine r_ildM C Z 1 rfl (by omega) (by decide) d_Ents_has_5 ?_
  refine lv_iconst (v := (-1)) C.1 C.2.1 d_Ents_has_6 (by decide) ?_
  refine lv_icmp_eq (tgt := 14) C.1 C.2.1 d_Ents_has_7 (by decide) (fun h7 => ?_) (fun h7 => ?_)
  · skip
    refine lv_iconst (v := nI 0) C.1 C.2.1 d_Ents_has_14 (by decide) ?_
    exact r_zret C Z (by omega) () ⟨by have := m1_eq hln; congr 1; first | (have := this.mp h7; omega) | (have : ¬ ln k = 0 := fun q => h7 (m1_eq hln |>.mpr q); omega), rfl⟩ rfl hQ d_Ents_has_15
  · skip
    refine lv_iconst (v := nI 1) C.1 C.2.1 d_Ents_has_10 (by decide) ?_
    refine lv_goto (tgt := 15) C.1 C.2.1 d_Ents_has_11 (by decide) ?_
    exact r_zret C Z (by omega) () ⟨by have := m1_eq hln; congr 1; first | (have := this.mp h7; omega) | (have : ¬ ln k = 0 := fun q => h7 (m1_eq hln |>.mpr q); omega), rfl⟩ rfl hQ d_Ents_has_15

set_option maxHeartbeats 4000000 in
set_option maxRecDepth 100000 in
theorem c_Ents_startOf (l : Launch) (D : va_G) (cI cZ : ClassId) (eA wA sA lA : Nat) (dl : Int32) (kept : Nat) (dr : Nat) (sf : Nat → Nat) (k : Nat) (hk : k < 26) : Mi l y_Ents_startOf b_Ents_startOf 2 (some .int) ({ frames := 0, cells := 0, slots := 0, locals := 0 } : Room) D cI cZ [.ref eA, .int (nI k)] [(eA, .inr (1, [.ref wA, .ref sA, .ref lA, .int dl, .int (nI kept), .int (nI dr)])), (sA, .inl (cI, 26, .inl (aN sf)))] (fun (r : Int32) (u : Unit) => r = nI (sf k) ∧ u = ()) (fun u : Unit => [(eA, .inr (1, [.ref wA, .ref sA, .ref lA, .int dl, .int (nI kept), .int (nI dr)])), (sA, .inl (cI, 26, .inl (aN sf)))]) := by
  refine Mi.intro (by decide) (Nat.le_of_ble_eq_true rfl) ?_
  intro p e s m args below meth cd A ls R Q hR hQ C Z hl
  have hl : lv_has ls 2 [(0, .ref eA), (1, .int (nI k))] := hl
  refine lv_aload_n C.1 C.2.1 d_Ents_startOf_0 rfl (lv_at hl 0 rfl) ?_
  refine r_get C Z 0 f_Ents_15 rfl rfl d_Ents_startOf_1 ?_
  refine lv_iload_n C.1 C.2.1 d_Ents_startOf_4 rfl (lv_at hl 1 rfl) ?_
  refine r_ildN C Z 1 rfl (by omega) (by decide) d_Ents_startOf_5 ?_
  exact r_iret C Z () (by first | exact ⟨rfl, rfl⟩ | (clear C Z hl; grind)) rfl hQ d_Ents_startOf_6

set_option maxHeartbeats 4000000 in
set_option maxRecDepth 100000 in
theorem c_Ents_lengthOf (l : Launch) (D : va_G) (cI cZ : ClassId) (eA wA sA lA : Nat) (dl : Int32) (kept : Nat) (dr : Nat) (ln : Nat → Nat) (k : Nat) (hk : k < 26) (hln : ln k ≠ 0) : Mi l y_Ents_lengthOf b_Ents_lengthOf 2 (some .int) ({ frames := 0, cells := 0, slots := 0, locals := 0 } : Room) D cI cZ [.ref eA, .int (nI k)] [(eA, .inr (1, [.ref wA, .ref sA, .ref lA, .int dl, .int (nI kept), .int (nI dr)])), (lA, .inl (cI, 26, .inl (aM ln)))] (fun (r : Int32) (u : Unit) => r = nI (ln k - 1) ∧ u = ()) (fun u : Unit => [(eA, .inr (1, [.ref wA, .ref sA, .ref lA, .int dl, .int (nI kept), .int (nI dr)])), (lA, .inl (cI, 26, .inl (aM ln)))]) := by
  refine Mi.intro (by decide) (Nat.le_of_ble_eq_true rfl) ?_
  intro p e s m args below meth cd A ls R Q hR hQ C Z hl
  have hl : lv_has ls 2 [(0, .ref eA), (1, .int (nI k))] := hl
  refine lv_aload_n C.1 C.2.1 d_Ents_lengthOf_0 rfl (lv_at hl 0 rfl) ?_
  refine r_get C Z 0 f_Ents_18 rfl rfl d_Ents_lengthOf_1 ?_
  refine lv_iload_n C.1 C.2.1 d_Ents_lengthOf_4 rfl (lv_at hl 1 rfl) ?_
  refine r_ildM C Z 1 rfl (by omega) (by decide) d_Ents_lengthOf_5 ?_
  exact r_iret C Z () ⟨m1_sub hln, rfl⟩ rfl hQ d_Ents_lengthOf_6

set_option maxHeartbeats 4000000 in
set_option maxRecDepth 100000 in
theorem c_Ents_characterOf (l : Launch) (D : va_G) (cI cZ : ClassId) (eA wA sA lA : Nat) (dl : Int32) (kept : Nat) (dr : Nat) (tx : Nat → Nat) (sf : Nat → Nat) (k : Nat) (i : Nat) (hk : k < 26) (hi : sf k + i < 2000) : Mi l y_Ents_characterOf b_Ents_characterOf 3 (some .int) ({ frames := 0, cells := 0, slots := 0, locals := 0 } : Room) D cI cZ [.ref eA, .int (nI k), .int (nI i)] [(eA, .inr (1, [.ref wA, .ref sA, .ref lA, .int dl, .int (nI kept), .int (nI dr)])), (wA, .inl (cI, 2000, .inl (aN tx))), (sA, .inl (cI, 26, .inl (aN sf)))] (fun (r : Int32) (u : Unit) => r = nI (tx (sf k + i)) ∧ u = ()) (fun u : Unit => [(eA, .inr (1, [.ref wA, .ref sA, .ref lA, .int dl, .int (nI kept), .int (nI dr)])), (wA, .inl (cI, 2000, .inl (aN tx))), (sA, .inl (cI, 26, .inl (aN sf)))]) := by
  refine Mi.intro (by decide) (Nat.le_of_ble_eq_true rfl) ?_
  intro p e s m args below meth cd A ls R Q hR hQ C Z hl
  have hl : lv_has ls 3 [(0, .ref eA), (1, .int (nI k)), (2, .int (nI i))] := hl
  refine lv_aload_n C.1 C.2.1 d_Ents_characterOf_0 rfl (lv_at hl 0 rfl) ?_
  refine r_get C Z 0 f_Ents_9 rfl rfl d_Ents_characterOf_1 ?_
  refine lv_aload_n C.1 C.2.1 d_Ents_characterOf_4 rfl (lv_at hl 0 rfl) ?_
  refine r_get C Z 0 f_Ents_15 rfl rfl d_Ents_characterOf_5 ?_
  refine lv_iload_n C.1 C.2.1 d_Ents_characterOf_8 rfl (lv_at hl 1 rfl) ?_
  refine r_ildN C Z 2 rfl (by omega) (by decide) d_Ents_characterOf_9 ?_
  refine lv_iload_n C.1 C.2.1 d_Ents_characterOf_10 rfl (lv_at hl 2 rfl) ?_
  refine r_add C d_Ents_characterOf_11 ?_
  refine r_ildN C Z 1 rfl (by omega) (by decide) d_Ents_characterOf_12 ?_
  exact r_iret C Z () (by first | exact ⟨rfl, rfl⟩ | (clear C Z hl; grind)) rfl hQ d_Ents_characterOf_13

set_option maxHeartbeats 4000000 in
set_option maxRecDepth 100000 in
theorem c_Ents_beginDraft (l : Launch) (D : va_G) (cI cZ : ClassId) (eA wA sA lA : Nat) (dl : Int32) (kept : Nat) (dr : Nat) : Mv l y_Ents_beginDraft b_Ents_beginDraft 1 ({ frames := 0, cells := 0, slots := 0, locals := 0 } : Room) D cI cZ [.ref eA] [(eA, .inr (1, [.ref wA, .ref sA, .ref lA, .int dl, .int (nI kept), .int (nI dr)]))] (fun u : Nat => u = 0) (fun u : Nat => [(eA, .inr (1, [.ref wA, .ref sA, .ref lA, .int dl, .int (nI kept), .int (nI u)]))]) 0 0 := by
  refine Mv.intro (by decide) (Nat.le_of_ble_eq_true rfl) ?_
  intro p e s m args below meth cd A ls R Q hR hQ C hin Z hl
  have hl : lv_has ls 1 [(0, .ref eA)] := hl
  refine lv_aload_n C.1 C.2.1 d_Ents_beginDraft_0 rfl (lv_at hl 0 rfl) ?_
  refine lv_iconst (v := nI 0) C.1 C.2.1 d_Ents_beginDraft_1 (by decide) ?_
  refine r_put (ws' := [(eA, .inr (1, [.ref wA, .ref sA, .ref lA, .int dl, .int (nI kept), .int (nI 0)]))]) C Z 0 f_Ents_28 rfl rfl rfl (Nat.le_of_ble_eq_true rfl) rfl d_Ents_beginDraft_2 (fun H locs Z => ?_)
  exact r_vret C Z 0 (by first | exact rfl | (clear C Z hl; grind)) rfl hQ d_Ents_beginDraft_5

set_option maxHeartbeats 4000000 in
set_option maxRecDepth 100000 in
theorem c_Ents_draft (l : Launch) (D : va_G) (cI cZ : ClassId) (eA wA sA lA : Nat) (dl : Int32) (kept : Nat) (dr : Nat) (tx : Nat → Nat) (c : Nat) (hkept : kept ≤ 2000) (hdr : dr ≤ 100000) : Mv l y_Ents_draft b_Ents_draft 2 ({ frames := 0, cells := 0, slots := 0, locals := 0 } : Room) D cI cZ [.ref eA, .int (nI c)] [(eA, .inr (1, [.ref wA, .ref sA, .ref lA, .int dl, .int (nI kept), .int (nI dr)])), (wA, .inl (cI, 2000, .inl (aN tx)))] (fun u : (Nat → Nat) × Nat => u = (drX kept dr c tx, dr + 1)) (fun u : (Nat → Nat) × Nat => [(eA, .inr (1, [.ref wA, .ref sA, .ref lA, .int dl, .int (nI kept), .int (nI u.2)])), (wA, .inl (cI, 2000, .inl (aN u.1)))]) 0 0 := by
  refine Mv.intro (by decide) (Nat.le_of_ble_eq_true rfl) ?_
  intro p e s m args below meth cd A ls R Q hR hQ C hin Z hl
  have hl : lv_has ls 2 [(0, .ref eA), (1, .int (nI c))] := hl
  refine lv_aload_n C.1 C.2.1 d_Ents_draft_0 rfl (lv_at hl 0 rfl) ?_
  refine r_get C Z 0 f_Ents_25 rfl rfl d_Ents_draft_1 ?_
  refine lv_aload_n C.1 C.2.1 d_Ents_draft_4 rfl (lv_at hl 0 rfl) ?_
  refine r_get C Z 0 f_Ents_28 rfl rfl d_Ents_draft_5 ?_
  refine r_add C d_Ents_draft_8 ?_
  refine lv_sipush (v := nI 2000) C.1 C.2.1 d_Ents_draft_9 (by decide) ?_
  refine r_ge (tgt := 30) C d_Ents_draft_12 (by decide) (by omega) (by omega) (fun h12 => ?_) (fun h12 => ?_)
  · skip
    refine lv_aload_n C.1 C.2.1 d_Ents_draft_30 rfl (lv_at hl 0 rfl) ?_
    refine lv_dup C.1 C.2.1 d_Ents_draft_31 rfl ?_
    refine r_get C Z 0 f_Ents_28 rfl rfl d_Ents_draft_32 ?_
    refine lv_iconst (v := nI 1) C.1 C.2.1 d_Ents_draft_35 (by decide) ?_
    refine r_add C d_Ents_draft_36 ?_
    refine r_put (ws' := [(eA, .inr (1, [.ref wA, .ref sA, .ref lA, .int dl, .int (nI kept), .int (nI (dr + 1))])), (wA, .inl (cI, 2000, .inl (aN tx)))]) C Z 0 f_Ents_28 rfl rfl rfl (Nat.le_of_ble_eq_true rfl) rfl d_Ents_draft_37 (fun H locs Z => ?_)
    exact r_vret C Z (tx, dr + 1) (by unfold drX; first | rw [if_pos (by omega)] | rw [if_neg (by omega)]) rfl hQ d_Ents_draft_40
  · skip
    refine lv_aload_n C.1 C.2.1 d_Ents_draft_15 rfl (lv_at hl 0 rfl) ?_
    refine r_get C Z 0 f_Ents_9 rfl rfl d_Ents_draft_16 ?_
    refine lv_aload_n C.1 C.2.1 d_Ents_draft_19 rfl (lv_at hl 0 rfl) ?_
    refine r_get C Z 0 f_Ents_25 rfl rfl d_Ents_draft_20 ?_
    refine lv_aload_n C.1 C.2.1 d_Ents_draft_23 rfl (lv_at hl 0 rfl) ?_
    refine r_get C Z 0 f_Ents_28 rfl rfl d_Ents_draft_24 ?_
    refine r_add C d_Ents_draft_27 ?_
    refine lv_iload_n C.1 C.2.1 d_Ents_draft_28 rfl (lv_at hl 1 rfl) ?_
    refine r_istN (ws' := [(eA, .inr (1, [.ref wA, .ref sA, .ref lA, .int dl, .int (nI kept), .int (nI dr)])), (wA, .inl (cI, 2000, .inl (aN (updN tx (kept + dr) c))))]) C Z 1 rfl (by omega) (by decide) rfl d_Ents_draft_29 (fun H locs Z => ?_)
    refine lv_aload_n C.1 C.2.1 d_Ents_draft_30 rfl (lv_at hl 0 rfl) ?_
    refine lv_dup C.1 C.2.1 d_Ents_draft_31 rfl ?_
    refine r_get C Z 0 f_Ents_28 rfl rfl d_Ents_draft_32 ?_
    refine lv_iconst (v := nI 1) C.1 C.2.1 d_Ents_draft_35 (by decide) ?_
    refine r_add C d_Ents_draft_36 ?_
    refine r_put (ws' := [(eA, .inr (1, [.ref wA, .ref sA, .ref lA, .int dl, .int (nI kept), .int (nI (dr + 1))])), (wA, .inl (cI, 2000, .inl (aN (updN tx (kept + dr) c))))]) C Z 0 f_Ents_28 rfl rfl rfl (Nat.le_of_ble_eq_true rfl) rfl d_Ents_draft_37 (fun H locs Z => ?_)
    exact r_vret C Z (updN tx (kept + dr) c, dr + 1) (by unfold drX; first | rw [if_pos (by omega)] | rw [if_neg (by omega)]) rfl hQ d_Ents_draft_40

set_option maxHeartbeats 4000000 in
set_option maxRecDepth 100000 in
theorem c_Ents_draftFits (l : Launch) (D : va_G) (cI cZ : ClassId) (eA wA sA lA : Nat) (dl : Int32) (kept : Nat) (dr : Nat) (hkept : kept ≤ 2000) (hdr : dr ≤ 100000) : Mi l y_Ents_draftFits b_Ents_draftFits 1 (some .boolean) ({ frames := 0, cells := 0, slots := 0, locals := 0 } : Room) D cI cZ [.ref eA] [(eA, .inr (1, [.ref wA, .ref sA, .ref lA, .int dl, .int (nI kept), .int (nI dr)]))] (fun (r : Int32) (u : Unit) => r = nI (1 - (kept + dr - 2000)) ∧ u = ()) (fun u : Unit => [(eA, .inr (1, [.ref wA, .ref sA, .ref lA, .int dl, .int (nI kept), .int (nI dr)]))]) := by
  refine Mi.intro (by decide) (Nat.le_of_ble_eq_true rfl) ?_
  intro p e s m args below meth cd A ls R Q hR hQ C Z hl
  have hl : lv_has ls 1 [(0, .ref eA)] := hl
  refine lv_aload_n C.1 C.2.1 d_Ents_draftFits_0 rfl (lv_at hl 0 rfl) ?_
  refine r_get C Z 0 f_Ents_25 rfl rfl d_Ents_draftFits_1 ?_
  refine lv_aload_n C.1 C.2.1 d_Ents_draftFits_4 rfl (lv_at hl 0 rfl) ?_
  refine r_get C Z 0 f_Ents_28 rfl rfl d_Ents_draftFits_5 ?_
  refine r_add C d_Ents_draftFits_8 ?_
  refine lv_sipush (v := nI 2000) C.1 C.2.1 d_Ents_draftFits_9 (by decide) ?_
  refine r_gt (tgt := 19) C d_Ents_draftFits_12 (by decide) (by omega) (by omega) (fun h12 => ?_) (fun h12 => ?_)
  · skip
    refine lv_iconst (v := nI 0) C.1 C.2.1 d_Ents_draftFits_19 (by decide) ?_
    exact r_zret C Z (by omega) () ⟨by congr 1; omega, rfl⟩ rfl hQ d_Ents_draftFits_20
  · skip
    refine lv_iconst (v := nI 1) C.1 C.2.1 d_Ents_draftFits_15 (by decide) ?_
    refine lv_goto (tgt := 20) C.1 C.2.1 d_Ents_draftFits_16 (by decide) ?_
    exact r_zret C Z (by omega) () ⟨by congr 1; omega, rfl⟩ rfl hQ d_Ents_draftFits_20

set_option maxHeartbeats 4000000 in
set_option maxRecDepth 100000 in
theorem c_Ents_keepDraft (l : Launch) (D : va_G) (cI cZ : ClassId) (eA wA sA lA : Nat) (dl : Int32) (kept : Nat) (dr : Nat) (sf : Nat → Nat) (ln : Nat → Nat) (k : Nat) (hk : k < 26) : Mv l y_Ents_keepDraft b_Ents_keepDraft 2 ({ frames := 0, cells := 0, slots := 0, locals := 0 } : Room) D cI cZ [.ref eA, .int (nI k)] [(eA, .inr (1, [.ref wA, .ref sA, .ref lA, .int dl, .int (nI kept), .int (nI dr)])), (sA, .inl (cI, 26, .inl (aN sf))), (lA, .inl (cI, 26, .inl (aM ln)))] (fun u : (Nat → Nat) × (Nat → Nat) × Nat × Int32 => u = (updN sf k kept, updN ln k (dr + 1), kept + dr, dl + nI 1)) (fun u : (Nat → Nat) × (Nat → Nat) × Nat × Int32 => [(eA, .inr (1, [.ref wA, .ref sA, .ref lA, .int u.2.2.2, .int (nI u.2.2.1), .int (nI dr)])), (sA, .inl (cI, 26, .inl (aN u.1))), (lA, .inl (cI, 26, .inl (aM u.2.1)))]) 0 0 := by
  refine Mv.intro (by decide) (Nat.le_of_ble_eq_true rfl) ?_
  intro p e s m args below meth cd A ls R Q hR hQ C hin Z hl
  have hl : lv_has ls 2 [(0, .ref eA), (1, .int (nI k))] := hl
  refine lv_aload_n C.1 C.2.1 d_Ents_keepDraft_0 rfl (lv_at hl 0 rfl) ?_
  refine r_get C Z 0 f_Ents_15 rfl rfl d_Ents_keepDraft_1 ?_
  refine lv_iload_n C.1 C.2.1 d_Ents_keepDraft_4 rfl (lv_at hl 1 rfl) ?_
  refine lv_aload_n C.1 C.2.1 d_Ents_keepDraft_5 rfl (lv_at hl 0 rfl) ?_
  refine r_get C Z 0 f_Ents_25 rfl rfl d_Ents_keepDraft_6 ?_
  refine r_istN (ws' := [(eA, .inr (1, [.ref wA, .ref sA, .ref lA, .int dl, .int (nI kept), .int (nI dr)])), (sA, .inl (cI, 26, .inl (aN (updN sf k kept)))), (lA, .inl (cI, 26, .inl (aM ln)))]) C Z 1 rfl (by omega) (by decide) rfl d_Ents_keepDraft_9 (fun H locs Z => ?_)
  refine lv_aload_n C.1 C.2.1 d_Ents_keepDraft_10 rfl (lv_at hl 0 rfl) ?_
  refine r_get C Z 0 f_Ents_18 rfl rfl d_Ents_keepDraft_11 ?_
  refine lv_iload_n C.1 C.2.1 d_Ents_keepDraft_14 rfl (lv_at hl 1 rfl) ?_
  refine lv_aload_n C.1 C.2.1 d_Ents_keepDraft_15 rfl (lv_at hl 0 rfl) ?_
  refine r_get C Z 0 f_Ents_28 rfl rfl d_Ents_keepDraft_16 ?_
  refine r_istM (ws' := [(eA, .inr (1, [.ref wA, .ref sA, .ref lA, .int dl, .int (nI kept), .int (nI dr)])), (sA, .inl (cI, 26, .inl (aN (updN sf k kept)))), (lA, .inl (cI, 26, .inl (aM (updN ln k (dr + 1)))))]) C Z 2 rfl (by omega) (by decide) rfl d_Ents_keepDraft_19 (fun H locs Z => ?_)
  refine lv_aload_n C.1 C.2.1 d_Ents_keepDraft_20 rfl (lv_at hl 0 rfl) ?_
  refine lv_dup C.1 C.2.1 d_Ents_keepDraft_21 rfl ?_
  refine r_get C Z 0 f_Ents_25 rfl rfl d_Ents_keepDraft_22 ?_
  refine lv_aload_n C.1 C.2.1 d_Ents_keepDraft_25 rfl (lv_at hl 0 rfl) ?_
  refine r_get C Z 0 f_Ents_28 rfl rfl d_Ents_keepDraft_26 ?_
  refine r_add C d_Ents_keepDraft_29 ?_
  refine r_put (ws' := [(eA, .inr (1, [.ref wA, .ref sA, .ref lA, .int dl, .int (nI (kept + dr)), .int (nI dr)])), (sA, .inl (cI, 26, .inl (aN (updN sf k kept)))), (lA, .inl (cI, 26, .inl (aM (updN ln k (dr + 1)))))]) C Z 0 f_Ents_25 rfl rfl rfl (Nat.le_of_ble_eq_true rfl) rfl d_Ents_keepDraft_30 (fun H locs Z => ?_)
  refine lv_aload_n C.1 C.2.1 d_Ents_keepDraft_33 rfl (lv_at hl 0 rfl) ?_
  refine lv_dup C.1 C.2.1 d_Ents_keepDraft_34 rfl ?_
  refine r_get C Z 0 f_Ents_21 rfl rfl d_Ents_keepDraft_35 ?_
  refine lv_iconst (v := nI 1) C.1 C.2.1 d_Ents_keepDraft_38 (by decide) ?_
  refine lv_iadd C.1 C.2.1 d_Ents_keepDraft_39 ?_
  refine r_put (ws' := [(eA, .inr (1, [.ref wA, .ref sA, .ref lA, .int (dl + nI 1), .int (nI (kept + dr)), .int (nI dr)])), (sA, .inl (cI, 26, .inl (aN (updN sf k kept)))), (lA, .inl (cI, 26, .inl (aM (updN ln k (dr + 1)))))]) C Z 0 f_Ents_21 rfl rfl rfl (Nat.le_of_ble_eq_true rfl) rfl d_Ents_keepDraft_40 (fun H locs Z => ?_)
  exact r_vret C Z (updN sf k kept, updN ln k (dr + 1), kept + dr, dl + nI 1) (by first | exact rfl | (clear C Z hl; grind)) rfl hQ d_Ents_keepDraft_43
