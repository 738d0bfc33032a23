set_option maxHeartbeats 8000000 in
set_option maxRecDepth 100000 in
/-- from the entry, for every script of at most 2048 ints, the law comes to its end with true -/
theorem whole_start {p : Program} {e : Env} {s : State} {m : MethodId} {below : List Frame} {meth : Method} {c : Code} (l : Launch) {b L : Nat} {xs : Nat → Int32} (hL : L ≤ 2048) (C0 : lw_At p s m meth c b L xs) : W p l e room_1 s m #[Value.ref b] below meth c s.heap [] 0 0 (lw_Z below #[Value.ref b] s) (entryFrame m ([Value.ref b] : List Value).toArray 4) := by
  obtain ⟨hx, hb, hr, hml, hown, hts, hX, hbl, hlocks, hgv⟩ := id C0
  obtain ⟨c0, iS0, hKn0⟩ := u_known (C := R_Desk) (T := F_Desk) (N := 14) (n := 14) hts (fun w h => gw_tbl _ (u_Desk_in w h)) (hts (.instantiable "EntityDesk" 14) (gw_tbl _ k_Law_7.2))
  obtain ⟨c1, iS1, hKn1⟩ := u_known (C := R_Ents) (T := F_Ents) (N := 6) (n := 6) hts (fun w h => gw_tbl _ (u_Ents_in w h)) (hts (.instantiable "EntityDesk$Entities" 6) (gw_tbl _ k_Desk_17.2))
  obtain ⟨c2, iS2, hKn2⟩ := u_known (C := R_Reader) (T := F_Reader) (N := 3) (n := 3) hts (fun w h => gw_tbl _ (u_Reader_in w h)) (hts (.instantiable "EntityDesk$Reader" 3) (gw_tbl _ k_Desk_24.2))
  obtain ⟨c3, iS3, hKn3⟩ := u_known (C := R_Model) (T := F_Model) (N := 24) (n := 24) hts (fun w h => gw_tbl _ (u_Model_in w h)) (hts (.instantiable "EntityDeskModel" 24) (gw_tbl _ k_Law_10.2))
  obtain ⟨dC, dI, hKc⟩ : ∃ (dC : Nat → ClassId) (dI : Nat → Nat → Nat), ∀ (k : Nat) (q : vw_C), classes[k]? = some q → u_Kn s q.1 q.2.1 q.2.2 (dC k) (dI k) := by
    refine ⟨fun k => if k = 0 then c0 else if k = 1 then c1 else if k = 2 then c2 else c3, fun k => if k = 0 then iS0 else if k = 1 then iS1 else if k = 2 then iS2 else iS3, ?_⟩
    intro k q hq
    match k, hq with
    | 0, hq => cases hq; exact hKn0
    | 1, hq => cases hq; exact hKn1
    | 2, hq => cases hq; exact hKn2
    | 3, hq => cases hq; exact hKn3
    | k + 4, hq => simp [classes] at hq
  obtain ⟨cI, kI, compI, hI1, hI2, hI3⟩ := Cond.arrayClass_spec (hts (.arrayClass .int) (gw_tbl _ ga_I))
  obtain ⟨cZ, kZ, compZ, hZ1, hZ2, hZ3⟩ := Cond.arrayClass_spec (hts (.arrayClass .boolean) (gw_tbl _ ga_Z))
  have hK : va_K (dC, dI) classes [(cI, .int), (cZ, .boolean)] s := by
    refine ⟨hKc, fun k q h => ?_⟩
    match k, h with
    | 0, h => cases h; exact ⟨fun n z => ⟨fun k h => (by cases h), kI, hI2, compI, hI3⟩, hI1⟩
    | 1, h => cases h; exact ⟨fun n z => ⟨fun k h => (by cases h), kZ, hZ2, compZ, hZ3⟩, hZ1⟩
    | k + 2, h => simp at h
  have hNW : NW s := fun w hw => va_Nw.of (nest_tab (List.mem_filter.mp hw).2) (hts w (List.mem_filter.mp hw).1)
  have C : Cx p s m #[Value.ref b] meth c code 4 ret "EntityDeskLaw" (dC, dI) cI cZ (fun q : Nat => s.heap.size ≤ q) := ⟨hx, hb, hml, hr, hlocks, hown, fun w hw => hts w (gw_tbl _ hw), ⟨hK, hNW⟩, fun _ h => h⟩
  obtain ⟨D, hD⟩ : ∃ D, D = (dC, dI) := ⟨_, rfl⟩
  rw [← hD] at C
  have Z : Wd D (fun q : Nat => s.heap.size ≤ q) s.heap [] s.heap [] := ⟨fun k q h => by simp at h, ⟨fun i j p q h => by simp at h, fun k q h => by simp at h⟩, va_S.rf⟩
  have hl := lv_entry ([.ref b]) (n := 4) (Nat.le_of_ble_eq_true rfl)
  rw [lg_entry_eq]
  generalize (lg_sl ([.ref b]) ++ List.replicate (4 - (lg_sl ([.ref b])).length) Slot.unset).toArray = ls at hl ⊢
  have hl : lv_has ls 4 [(0, .ref b)] := hl
  obtain ⟨R, hR⟩ : ∃ R, R = room_1 := ⟨_, rfl⟩
  rw [← hR]
  refine r_newO (ci := 0) (fs := [.null, .int (nI 0), .null, .null, .int (nI 0), .int (nI 0), .int (nI 0), .null, .int (nI 0), .null, .int (nI 0), .int (nI 0), .int (nI 0), .int (nI 0)]) C Z k_Law_7 gi_Desk u_Desk_in t_Desk_ok rfl (fun j hj => by (rcases (show j = 0 ∨ j = 1 ∨ j = 2 ∨ j = 3 ∨ j = 4 ∨ j = 5 ∨ j = 6 ∨ j = 7 ∨ j = 8 ∨ j = 9 ∨ j = 10 ∨ j = 11 ∨ j = 12 ∨ j = 13 by omega) with rfl | rfl | rfl | rfl | rfl | rfl | rfl | rfl | rfl | rfl | rfl | rfl | rfl | rfl <;> rfl)) (by rw [hR]; decide) (by rw [hR]; decide) d_Law_0 (fun q1 H Z => ?_)
  have Z : Wd D (fun q : Nat => s.heap.size ≤ q) s.heap [(q1, .inr (0, [.null, .int (nI 0), .null, .null, .int (nI 0), .int (nI 0), .int (nI 0), .null, .int (nI 0), .null, .int (nI 0), .int (nI 0), .int (nI 0), .int (nI 0)]))] H _ := Z
  refine lv_dup C.1 C.2.1 d_Law_3 rfl ?_
  refine r_callI (rest := [.ref q1]) (wr := []) (wn := fun u => [(q1, .inr (0, [.ref u.1, .int (nI 0), .ref u.2.1, .ref u.2.2.2.2.2.1, .int (nI 0), .int (-1), .int (nI 0), .ref u.2.2.2.2.2.2.1, .int (nI 0), .ref u.2.2.2.2.2.2.2, .int (nI 0), .int (nI 0), .int (nI 0), .int (nI 0)])), (u.1, .inl (cI, 400, .inl (aN (fun _ => 0)))), (u.2.1, .inr (1, [.ref u.2.2.1, .ref u.2.2.2.1, .ref u.2.2.2.2.1, .int (nI 0), .int (nI 0), .int (nI 0)])), (u.2.2.1, .inl (cI, 2000, .inl (aN (fun _ => 0)))), (u.2.2.2.1, .inl (cI, 26, .inl (aN (fun _ => 0)))), (u.2.2.2.2.1, .inl (cI, 26, .inl (aM (fun _ => 0)))), (u.2.2.2.2.2.1, .inr (2, [.int (nI 0), .int (nI 0), .int (nI 0)])), (u.2.2.2.2.2.2.1, .inl (cI, 3000, .inl (aN (fun _ => 0)))), (u.2.2.2.2.2.2.2, .inl (cZ, 26, .inl (aN (fun _ => 0))))]) C Z (c_Desk_init l D cI cZ q1) k_Law_9 rfl ⟨by rw [hR]; decide, by rw [hR]; decide⟩ ⟨rfl, rfl⟩ [0] [] [0, 1, 2, 3, 4, 5, 6, 7, 8] (by decide) rfl rfl (by decide) (by decide) (by decide) (fun _ => rfl) hl.1 rfl (Nat.le_of_ble_eq_true rfl) d_Law_4 ⟨by rw [hR]; decide, by rw [hR]; decide⟩ (fun u H locs hp Z => ?_)
  obtain ⟨hA2, eA2, wA2, sA2, lA2, rA2, oA2, pA2⟩ := u
  have Z : Wd D (fun q : Nat => s.heap.size ≤ q) s.heap [(q1, .inr (0, [.ref hA2, .int (nI 0), .ref eA2, .ref rA2, .int (nI 0), .int (-1), .int (nI 0), .ref oA2, .int (nI 0), .ref pA2, .int (nI 0), .int (nI 0), .int (nI 0), .int (nI 0)])), (hA2, .inl (cI, 400, .inl (aN (fun _ => 0)))), (eA2, .inr (1, [.ref wA2, .ref sA2, .ref lA2, .int (nI 0), .int (nI 0), .int (nI 0)])), (wA2, .inl (cI, 2000, .inl (aN (fun _ => 0)))), (sA2, .inl (cI, 26, .inl (aN (fun _ => 0)))), (lA2, .inl (cI, 26, .inl (aM (fun _ => 0)))), (rA2, .inr (2, [.int (nI 0), .int (nI 0), .int (nI 0)])), (oA2, .inl (cI, 3000, .inl (aN (fun _ => 0)))), (pA2, .inl (cZ, 26, .inl (aN (fun _ => 0))))] H locs := Z
  refine lv_astore_n (lv' := [(1, .ref q1), (0, .ref b)]) C.1 C.2.1 d_Law_7 rfl hl (by decide) rfl (fun ls hl => ?_)
  refine r_newO (ci := 3) (fs := [.null, .int (nI 0), .null, .int (nI 0), .null, .null, .null, .int (nI 0), .null, .int (nI 0), .null, .int (nI 0), .int (nI 0), .int (nI 0), .null, .int (nI 0), .int (nI 0), .int (nI 0), .int (nI 0), .int (nI 0), .int (nI 0), .int (nI 0), .int (nI 0), .long (lN 0)]) C Z k_Law_10 gi_Model u_Model_in t_Model_ok rfl (fun j hj => by (rcases (show j = 0 ∨ j = 1 ∨ j = 2 ∨ j = 3 ∨ j = 4 ∨ j = 5 ∨ j = 6 ∨ j = 7 ∨ j = 8 ∨ j = 9 ∨ j = 10 ∨ j = 11 ∨ j = 12 ∨ j = 13 ∨ j = 14 ∨ j = 15 ∨ j = 16 ∨ j = 17 ∨ j = 18 ∨ j = 19 ∨ j = 20 ∨ j = 21 ∨ j = 22 ∨ j = 23 by omega) with rfl | rfl | rfl | rfl | rfl | rfl | rfl | rfl | rfl | rfl | rfl | rfl | rfl | rfl | rfl | rfl | rfl | rfl | rfl | rfl | rfl | rfl | rfl | rfl <;> rfl)) (by rw [hR]; decide) (by rw [hR]; decide) d_Law_8 (fun q3 H Z => ?_)
  have Z : Wd D (fun q : Nat => s.heap.size ≤ q) s.heap [(q1, .inr (0, [.ref hA2, .int (nI 0), .ref eA2, .ref rA2, .int (nI 0), .int (-1), .int (nI 0), .ref oA2, .int (nI 0), .ref pA2, .int (nI 0), .int (nI 0), .int (nI 0), .int (nI 0)])), (hA2, .inl (cI, 400, .inl (aN (fun _ => 0)))), (eA2, .inr (1, [.ref wA2, .ref sA2, .ref lA2, .int (nI 0), .int (nI 0), .int (nI 0)])), (wA2, .inl (cI, 2000, .inl (aN (fun _ => 0)))), (sA2, .inl (cI, 26, .inl (aN (fun _ => 0)))), (lA2, .inl (cI, 26, .inl (aM (fun _ => 0)))), (rA2, .inr (2, [.int (nI 0), .int (nI 0), .int (nI 0)])), (oA2, .inl (cI, 3000, .inl (aN (fun _ => 0)))), (pA2, .inl (cZ, 26, .inl (aN (fun _ => 0)))), (q3, .inr (3, [.null, .int (nI 0), .null, .int (nI 0), .null, .null, .null, .int (nI 0), .null, .int (nI 0), .null, .int (nI 0), .int (nI 0), .int (nI 0), .null, .int (nI 0), .int (nI 0), .int (nI 0), .int (nI 0), .int (nI 0), .int (nI 0), .int (nI 0), .int (nI 0), .long (lN 0)]))] H _ := Z
  refine lv_dup C.1 C.2.1 d_Law_11 rfl ?_
  refine r_callI (rest := [.ref q3]) (wr := [(q1, .inr (0, [.ref hA2, .int (nI 0), .ref eA2, .ref rA2, .int (nI 0), .int (-1), .int (nI 0), .ref oA2, .int (nI 0), .ref pA2, .int (nI 0), .int (nI 0), .int (nI 0), .int (nI 0)])), (hA2, .inl (cI, 400, .inl (aN (fun _ => 0)))), (eA2, .inr (1, [.ref wA2, .ref sA2, .ref lA2, .int (nI 0), .int (nI 0), .int (nI 0)])), (wA2, .inl (cI, 2000, .inl (aN (fun _ => 0)))), (sA2, .inl (cI, 26, .inl (aN (fun _ => 0)))), (lA2, .inl (cI, 26, .inl (aM (fun _ => 0)))), (rA2, .inr (2, [.int (nI 0), .int (nI 0), .int (nI 0)])), (oA2, .inl (cI, 3000, .inl (aN (fun _ => 0)))), (pA2, .inl (cZ, 26, .inl (aN (fun _ => 0))))]) (wn := fun u => [(q1, .inr (0, [.ref hA2, .int (nI 0), .ref eA2, .ref rA2, .int (nI 0), .int (-1), .int (nI 0), .ref oA2, .int (nI 0), .ref pA2, .int (nI 0), .int (nI 0), .int (nI 0), .int (nI 0)])), (hA2, .inl (cI, 400, .inl (aN (fun _ => 0)))), (eA2, .inr (1, [.ref wA2, .ref sA2, .ref lA2, .int (nI 0), .int (nI 0), .int (nI 0)])), (wA2, .inl (cI, 2000, .inl (aN (fun _ => 0)))), (sA2, .inl (cI, 26, .inl (aN (fun _ => 0)))), (lA2, .inl (cI, 26, .inl (aM (fun _ => 0)))), (rA2, .inr (2, [.int (nI 0), .int (nI 0), .int (nI 0)])), (oA2, .inl (cI, 3000, .inl (aN (fun _ => 0)))), (pA2, .inl (cZ, 26, .inl (aN (fun _ => 0)))), (q3, .inr (3, [.ref u.1, .int (nI 0), .ref u.2.1, .int (nI 0), .ref u.2.2.1, .ref u.2.2.2.1, .ref u.2.2.2.2.1, .int (nI 0), .ref u.2.2.2.2.2.1, .int (nI 0), .ref u.2.2.2.2.2.2.1, .int (nI 0), .int (nI 0), .int (nI 0), .ref u.2.2.2.2.2.2.2, .int (nI 0), .int (nI 0), .int (nI 0), .int (nI 0), .int (nI 0), .int (nI 0), .int (-1), .int (nI 0), .long (lN 0)])), (u.1, .inl (cI, 400, .inl (aN (fun _ => 0)))), (u.2.1, .inl (cI, 2000, .inl (aN (fun _ => 0)))), (u.2.2.1, .inl (cI, 26, .inl (aN (fun _ => 0)))), (u.2.2.2.1, .inl (cI, 26, .inl (aN (fun _ => 0)))), (u.2.2.2.2.1, .inl (cZ, 26, .inl (aN (fun _ => 0)))), (u.2.2.2.2.2.1, .inl (cI, 2600, .inl (aN (fun _ => 0)))), (u.2.2.2.2.2.2.1, .inl (cZ, 26, .inl (aN (fun _ => 0)))), (u.2.2.2.2.2.2.2, .inl (cI, 3000, .inl (aN (fun _ => 0))))]) C Z (c_Model_init l D cI cZ q3) k_Law_12 rfl ⟨by rw [hR]; decide, by rw [hR]; decide⟩ ⟨rfl, rfl⟩ [9] [0, 1, 2, 3, 4, 5, 6, 7, 8] [0, 1, 2, 3, 4, 5, 6, 7, 8, 9, 10, 11, 12, 13, 14, 15, 16, 17] (by decide) rfl rfl (by decide) (by decide) (by decide) (fun _ => rfl) hl.1 rfl (Nat.le_of_ble_eq_true rfl) d_Law_12 ⟨by rw [hR]; decide, by rw [hR]; decide⟩ (fun u H locs hp Z => ?_)
  obtain ⟨ha4, tA4, bA4, eA4, zA4, wA4, pA4, oA4⟩ := u
  have Z : Wd D (fun q : Nat => s.heap.size ≤ q) s.heap [(q1, .inr (0, [.ref hA2, .int (nI 0), .ref eA2, .ref rA2, .int (nI 0), .int (-1), .int (nI 0), .ref oA2, .int (nI 0), .ref pA2, .int (nI 0), .int (nI 0), .int (nI 0), .int (nI 0)])), (hA2, .inl (cI, 400, .inl (aN (fun _ => 0)))), (eA2, .inr (1, [.ref wA2, .ref sA2, .ref lA2, .int (nI 0), .int (nI 0), .int (nI 0)])), (wA2, .inl (cI, 2000, .inl (aN (fun _ => 0)))), (sA2, .inl (cI, 26, .inl (aN (fun _ => 0)))), (lA2, .inl (cI, 26, .inl (aM (fun _ => 0)))), (rA2, .inr (2, [.int (nI 0), .int (nI 0), .int (nI 0)])), (oA2, .inl (cI, 3000, .inl (aN (fun _ => 0)))), (pA2, .inl (cZ, 26, .inl (aN (fun _ => 0)))), (q3, .inr (3, [.ref ha4, .int (nI 0), .ref tA4, .int (nI 0), .ref bA4, .ref eA4, .ref zA4, .int (nI 0), .ref wA4, .int (nI 0), .ref pA4, .int (nI 0), .int (nI 0), .int (nI 0), .ref oA4, .int (nI 0), .int (nI 0), .int (nI 0), .int (nI 0), .int (nI 0), .int (nI 0), .int (-1), .int (nI 0), .long (lN 0)])), (ha4, .inl (cI, 400, .inl (aN (fun _ => 0)))), (tA4, .inl (cI, 2000, .inl (aN (fun _ => 0)))), (bA4, .inl (cI, 26, .inl (aN (fun _ => 0)))), (eA4, .inl (cI, 26, .inl (aN (fun _ => 0)))), (zA4, .inl (cZ, 26, .inl (aN (fun _ => 0)))), (wA4, .inl (cI, 2600, .inl (aN (fun _ => 0)))), (pA4, .inl (cZ, 26, .inl (aN (fun _ => 0)))), (oA4, .inl (cI, 3000, .inl (aN (fun _ => 0))))] H locs := Z
  refine lv_astore_n (lv' := [(2, .ref q3), (1, .ref q1), (0, .ref b)]) C.1 C.2.1 d_Law_15 rfl hl (by decide) rfl (fun ls hl => ?_)
  refine lv_iconst (v := nI 0) C.1 C.2.1 d_Law_16 (by decide) ?_
  refine lv_istore_n (lv' := [(3, .int (nI 0)), (2, .ref q3), (1, .ref q1), (0, .ref b)]) C.1 C.2.1 d_Law_17 rfl hl (by decide) rfl (fun ls hl => ?_)
  have Z : Wd D (fun q : Nat => s.heap.size ≤ q) s.heap [(q1, .inr (0, [.ref hA2, .int (nI 0), .ref eA2, .ref rA2, .int (nI 0), .int (-1), .int (nI 0), .ref oA2, .int (nI 0), .ref pA2, .int (nI 0), .int (nI 0), .int (nI 0), .int (nI 0)])), (hA2, .inl (cI, 400, .inl (aN (fun _ => 0)))), (eA2, .inr (1, [.ref wA2, .ref sA2, .ref lA2, .int (nI 0), .int (nI 0), .int (nI 0)])), (wA2, .inl (cI, 2000, .inl (aN (fun _ => 0)))), (sA2, .inl (cI, 26, .inl (aN (fun _ => 0)))), (lA2, .inl (cI, 26, .inl (aM (fun _ => 0)))), (rA2, .inr (2, [.int (nI 0), .int (nI 0), .int (nI 0)])), (oA2, .inl (cI, 3000, .inl (aN (fun _ => 0)))), (pA2, .inl (cZ, 26, .inl (aN (fun _ => 0)))), (q3, .inr (3, [.ref ha4, .int (nI 0), .ref tA4, .int (nI 0), .ref bA4, .ref eA4, .ref zA4, .int (nI 0), .ref wA4, .int (nI 0), .ref pA4, .int (nI 0), .int (nI 0), .int (nI 0), .ref oA4, .int (nI 0), .int (nI 0), .int (nI 0), .int (nI 0), .int (nI 0), .int (nI 0), .int (-1), .int (nI 0), .long (lN 0)])), (ha4, .inl (cI, 400, .inl (aN (fun _ => 0)))), (tA4, .inl (cI, 2000, .inl (aN (fun _ => 0)))), (bA4, .inl (cI, 26, .inl (aN (fun _ => 0)))), (eA4, .inl (cI, 26, .inl (aN (fun _ => 0)))), (zA4, .inl (cZ, 26, .inl (aN (fun _ => 0)))), (wA4, .inl (cI, 2600, .inl (aN (fun _ => 0)))), (pA4, .inl (cZ, 26, .inl (aN (fun _ => 0)))), (oA4, .inl (cI, 3000, .inl (aN (fun _ => 0))))] H _ := Wd.perm Z [0, 1, 2, 3, 4, 5, 6, 7, 8, 9, 10, 11, 12, 13, 14, 15, 16, 17] (by decide) rfl
  rw [hR]
  exact law_loop hL hX hbl C q1 hA2 eA2 rA2 oA2 pA2 wA2 sA2 lA2 q3 ha4 tA4 bA4 eA4 zA4 wA4 pA4 oA4 L 0 (by omega) (by omega) 0 0 (-1) 0 0 0 0 (nI 0) 0 0 0 0 (nI 0) 0 0 (fun _ => 0) (fun _ => 0) (fun _ => 0) (fun _ => 0) (fun _ => 0) 0 0 0 0 0 0 0 (nI 0) (lN 0) (fun _ => 0) (fun _ => 0) (aN fun _ => 0) (fun _ => 0) ⟨by omega, fun _ => (by decide : (0 : Nat) < 256), fun _ => (by decide : (0 : Nat) < 256), by omega, rfl, fun _ _ h => absurd rfl h, fun _ => (by decide : (0 : Nat) ≤ 2001), fun _ _ => rfl, by omega, by omega, by omega, Or.inr ⟨rfl, rfl⟩⟩ _ _ _ Z (lv_sub hl [0, 3, 2, 1] rfl)
-- ===== YOUR PART ENDS =====
set_option maxHeartbeats 4000000 in
theorem lw_walk (l : Launch) (b : Addr) (xs : List Int32) : MetFree l x (headSpec (Jvm.Cond.code x code maxLocals ret :: tables_1) room_1) (lw_P b xs) (fun _ _ _ _ _ => True) lw_Q := by
  refine MetFree.of_bodyS (code := code) (maxLocals := maxLocals) (ret := ret) (by decide) ?_ ?_
  · intro args s m h hn
    obtain ⟨meth, c, h1, h2, h3, h4, h5, h6, -, -⟩ := Cond.code_spec hn (atoms_spec (ws := Jvm.Cond.code x code maxLocals ret :: tables_1) h _ List.mem_cons_self)
    exact ⟨meth, c, h1, h2, h3, h4, h5, h6⟩
  · intro p e s m args below meth c s₁ B hml0 hP _
    obtain ⟨rfl, hx, hbd, hgv⟩ := hP
    obtain ⟨scr, harrAt, hlist, hof, hsmall⟩ := hx
    obtain ⟨hcb, hkn, -, -⟩ := State.arrayAt?_spec harrAt
    have hown : s.vm.findClass R_law = some m.cls := findClass_of_methodNamed B.named
    have hts0 : ∀ c ∈ (Jvm.Cond.code x code maxLocals ret :: tables_1), c.before #[Value.ref b] s = true := atoms_spec (ws := Jvm.Cond.code x code maxLocals ret :: tables_1) B.pre
    have hts : ∀ w ∈ lw_tbl, w.before #[Value.ref b] s = true := k2_hts_sels lw_privs (fun w hw => hts0 w (List.mem_cons_of_mem _ hw)) lw_privs_ok
    have hml : c.maxLocals = 4 := B.maxLocals_eq (hts0 _ List.mem_cons_self)
    have X₀ : Stand p l e room_1 s m #[Value.ref b] below meth c s₁ [] 0 0 := Stand.of_body B
    have hh0 : s₁.heap = s.heap := by rw [B.state]; rfl
    have hsz : scr.slots.size = xs.length := by rw [← Array.length_toList, hlist, List.length_map]
    have hval : ∀ j : Nat, j < xs.length → scr.slots[j]? = some (.int (xs.getD j 0)) := fun j hj => by
      rw [← Array.getElem?_toList, hlist]
      simp [hj]
    have hbl : b < s.heap.size := (Array.getElem?_eq_some_iff.mp hcb).1
    have hX : va_X b xs.length (fun j => xs.getD j 0) s s.heap := ⟨scr, hcb, hof, hkn, hsz, hval⟩
    have K : W p l e room_1 s m #[Value.ref b] below meth c s₁.heap [] 0 0 (lw_Z below #[Value.ref b] s) (entryFrame m ([Value.ref b] : List Value).toArray 4) := by
      rw [hh0]
      exact whole_start l hbd ⟨B.exec, B.bytes, B.returns, hml, hown, hts, hX, hbl, B.notSynchronized, hgv⟩
    obtain ⟨t, a1, o, b1, b2, b3⟩ := K s₁ rfl X₀
    exact ⟨t, o, a1, b1, b2, b3⟩
theorem lw_pre_spec {args : Array Value} {s : State} (h : (Jvm.Cond.and given_1 narrow_1).before args s = true) (hr : rest_1_c.before args s = true) : ∃ (b : Addr) (xs : List Int32), lw_P b xs args s := by
  have hs := flat_of_before _ h
  have hq := flat_of_before _ hr
  have hc : (Cond.count 1).before args s = true := hs _ (by decide +kernel)
  have harr : (Cond.arrayOf (.arg 0) .int).before args s = true := hs _ (by decide +kernel)
  have hle : (Cond.le (.length (.arg 0)) (.int 2048)).before args s = true := hs _ (by decide +kernel)
  have hlen : (Cond.isInt (.length (.arg 0))).before args s = true := hq _ (by decide +kernel)
  have hall : (Cond.all (.arg 0) (.isInt (.elem (.arg 0) (.index 0)))).before args s = true := hq _ (by decide +kernel)
  obtain ⟨b, xs, hb, hx⟩ := State.ints_of_pre rfl harr hlen hall
  have hsm : xs.length < 2 ^ 31 := hx.choose_spec.2.2.2
  have hev : (Term.length (.arg 0)).eval args s none [] s = some (.int xs.length.toInt32) := hx.length_eval hb
  have hv := Cond.le_ints hev (show (Term.int 2048).eval args s none [] s = some (.int 2048) from rfl)
  have hd : xs.length.toInt32 ≤ 2048 := by
    simpa [Cond.before, Cond.holds, hv] using hle
  have hN : xs.length ≤ 2048 := (Int32.ofNat_le_ofNat hsm (by decide)).mp (show Int32.ofNat xs.length ≤ Int32.ofNat 2048 from hd)
  exact ⟨b, xs, Cond.one_arg hc (show args[0]? = some (.ref b) from hb), hx, hN, h⟩
theorem lw_comes (l : Launch) : Comes l x (Jvm.Cond.code x code maxLocals ret :: tables_1) room_1 (fun tb e args s => Calls_1 tb e args s ∧ rest_1 tb e args s ∧ Pre_1 tb e args s)
    (fun _ _ args s o t => lw_Q args s o t) := by
  intro p e ha hc hk s m args below hf hfit hheap happ hpre
  obtain ⟨b, xs, hP⟩ := lw_pre_spec hpre.2.2 hpre.2.1
  obtain ⟨k, o, h1, h2, h3, hQ⟩ := lw_walk l b xs p e ha hc hk s m args below hf ((Spec.applies_iff_loose hf).mp happ).1 hP trivial
  exact ⟨k, o, h1, h2, h3, hQ⟩
theorem lw_frame {s t : State} {o : Outcome} {args : Array Value} (h : Framed s o t [] 600000 7302250) :
    Framed s o t (fieldLocs frame_1_writes args s ++ arrayLocs frame_1_arrays args s ++ staticLocs frame_1_statics s) 600000 7302250 := h
theorem lw_limb (L : Cond) (hL : ∀ (args : Array Value) (s t : State), L.after args s (.returned (some (.int 1))) t = true) :
    ArmFor flags0 classFile x code maxLocals ret World_1 tables_1 room_1 Calls_1 rest_1 Pre_1
      (fun tb e a s o t => postC L tb e a s o t ∧ Framed s o t (fieldLocs frame_1_writes a s ++ arrayLocs frame_1_arrays a s ++ staticLocs frame_1_statics s) 600000 7302250) := by
  intro l _ _ _ p e ha hc hk s m args below hf hfit hheap happ hpre
  obtain ⟨k, o, h1, h2, h3, rfl, hF⟩ := lw_comes l p e ha hc hk s m args below hf hfit hheap happ hpre
  exact ⟨k, _, h1, h2, h3, hL args s _, lw_frame hF⟩
theorem i_vc : Claimed_1_1 ∧ Claimed_1_2 := ⟨lw_limb limb_1_1 (fun args s t => by simp [limb_1_1, Cond.after, Cond.holds, Cond.value]), lw_limb limb_1_2 (fun args s t => Cond.after_iff.mpr (by
  first | (rw [show limb_1_2 = Cond.eq .result (.int 1) from rfl, Cond.eq_ints (x := 1) (y := 1) rfl rfl]; simp; done) | (simp [limb_1_2, Cond.value, Term.eval]; done)))⟩
