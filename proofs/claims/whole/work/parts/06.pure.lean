/-! THE PURE WORDS of the desk's reader: what each method comes to. -/
def vN (c : Nat) : Nat := if 48 ≤ c ∧ c ≤ 57 then c - 47 else if 97 ≤ c ∧ c ≤ 102 then c - 86 else if 65 ≤ c ∧ c ≤ 70 then c - 54 else 0
def mayN (x : Nat) : Nat := if x = 9 ∨ x = 10 ∨ x = 13 ∨ (32 ≤ x ∧ x ≤ 255) then 1 else 0
/-- what is read, the reader's state, name, number behind a digit -/
def rdDig (st nm nu c base next : Nat) : Nat × Nat × Nat × Nat := if vN c = 0 ∨ base < vN c then (5, st, nm, nu) else (1, next, nm, min (nu * base + (vN c - 1)) 256)
def rdFin (nm nu : Nat) : Nat × Nat × Nat × Nat := (if mayN nu = 1 then 2 else 4, 0, nm, nu)
def rdAmp (st nm nu c : Nat) : Nat × Nat × Nat × Nat := if c = 35 then (1, 3, nm, 0) else if 97 ≤ c ∧ c ≤ 122 then (1, 2, c - 97, nu) else (5, st, nm, nu)
def rdP (st nm nu c : Nat) : Nat × Nat × Nat × Nat :=
  match st with
  | 0 => if c = 38 then (1, 1, nm, nu) else (0, 0, nm, nu)
  | 1 => rdAmp 1 nm nu c
  | 2 => if c = 59 then (3, 0, nm, nu) else (5, 2, nm, nu)
  | 3 => if c = 120 then (1, 5, nm, nu) else rdDig 3 nm nu c 10 4
  | 4 => if c = 59 then rdFin nm nu else rdDig 4 nm nu c 10 4
  | 5 => rdDig 5 nm nu c 16 6
  | _ => if c = 59 then rdFin nm nu else rdDig 6 nm nu c 16 6
theorem vN_le (c : Nat) : vN c ≤ 16 := by unfold vN; (repeat' split) <;> omega
theorem mayN_le (x : Nat) : mayN x ≤ 1 := by unfold mayN; split <;> omega
theorem rdDig_ok {st nm nu c base next : Nat} (h1 : st ≤ 6) (h2 : nm < 26) (h3 : nu ≤ 256) (h4 : next ≤ 6) : (rdDig st nm nu c base next).1 ≤ 5 ∧ (rdDig st nm nu c base next).2.1 ≤ 6 ∧ (rdDig st nm nu c base next).2.2.1 < 26 ∧ (rdDig st nm nu c base next).2.2.2 ≤ 256 := by
  unfold rdDig
  split
  · exact ⟨by dsimp only; omega, h1, h2, h3⟩
  · exact ⟨by dsimp only; omega, h4, h2, Nat.min_le_right _ _⟩
theorem rdFin_ok {nm nu : Nat} (h2 : nm < 26) (h3 : nu ≤ 256) : (rdFin nm nu).1 ≤ 5 ∧ (rdFin nm nu).2.1 ≤ 6 ∧ (rdFin nm nu).2.2.1 < 26 ∧ (rdFin nm nu).2.2.2 ≤ 256 := by
  unfold rdFin
  refine ⟨?_, by dsimp only; omega, h2, h3⟩
  dsimp only
  split <;> omega
theorem rdP_ok {st nm nu c : Nat} (h1 : st ≤ 6) (h2 : nm < 26) (h3 : nu ≤ 256) : (rdP st nm nu c).1 ≤ 5 ∧ (rdP st nm nu c).2.1 ≤ 6 ∧ (rdP st nm nu c).2.2.1 < 26 ∧ (rdP st nm nu c).2.2.2 ≤ 256 := by
  unfold rdP
  split
  · split
    · exact ⟨by dsimp only; omega, by dsimp only; omega, h2, h3⟩
    · exact ⟨by dsimp only; omega, by dsimp only; omega, h2, h3⟩
  · unfold rdAmp
    split
    · exact ⟨by dsimp only; omega, by dsimp only; omega, h2, by dsimp only; omega⟩
    · split
      · refine ⟨by dsimp only; omega, by dsimp only; omega, ?_, h3⟩
        dsimp only; omega
      · exact ⟨by dsimp only; omega, by dsimp only; omega, h2, h3⟩
  · split
    · exact ⟨by dsimp only; omega, by dsimp only; omega, h2, h3⟩
    · exact ⟨by dsimp only; omega, by dsimp only; omega, h2, h3⟩
  · split
    · exact ⟨by dsimp only; omega, by dsimp only; omega, h2, h3⟩
    · exact rdDig_ok (by omega) h2 h3 (by omega)
  · split
    · exact rdFin_ok h2 h3
    · exact rdDig_ok (by omega) h2 h3 (by omega)
  · exact rdDig_ok (by omega) h2 h3 (by omega)
  · split
    · exact rdFin_ok h2 h3
    · exact rdDig_ok (by omega) h2 h3 (by omega)
theorem rdDig_nm {st nm nu c base next : Nat} : (rdDig st nm nu c base next).2.2.1 = nm := by
  unfold rdDig
  split <;> rfl
theorem rdP_0 {nm nu c : Nat} : rdP 0 nm nu c = if c = 38 then (1, 1, nm, nu) else (0, 0, nm, nu) := rfl
theorem rdP_1 {nm nu c : Nat} : rdP 1 nm nu c = rdAmp 1 nm nu c := rfl
theorem rdP_2 {nm nu c : Nat} : rdP 2 nm nu c = if c = 59 then (3, 0, nm, nu) else (5, 2, nm, nu) := rfl
theorem rdP_3 {nm nu c : Nat} : rdP 3 nm nu c = if c = 120 then (1, 5, nm, nu) else rdDig 3 nm nu c 10 4 := rfl
theorem rdP_4 {nm nu c : Nat} : rdP 4 nm nu c = if c = 59 then rdFin nm nu else rdDig 4 nm nu c 10 4 := rfl
theorem rdP_5 {nm nu c : Nat} : rdP 5 nm nu c = rdDig 5 nm nu c 16 6 := rfl
theorem rdP_6 {nm nu c : Nat} : rdP 6 nm nu c = if c = 59 then rdFin nm nu else rdDig 6 nm nu c 16 6 := rfl
def drX (kept dr c : Nat) (tx : Nat → Nat) : Nat → Nat := if kept + dr < 2000 then updN tx (kept + dr) c else tx
