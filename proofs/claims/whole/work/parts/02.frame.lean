/-! THE FRAME: every contract stands over the same words (gw, and the nest words nw), a walk's fixed facts are one fact (Cx), its world is one fact (Wd). -/
def gw : List Cond := lw_tbl.filter goodWord
theorem gw_good : ∀ w ∈ gw, goodWord w = true := fun _ h => (List.mem_filter.mp h).2
theorem gw_tbl : ∀ w ∈ gw, w ∈ lw_tbl := fun _ h => (List.mem_filter.mp h).1
theorem gw_in {w : Cond} (h : w ∈ lw_tbl) (g : goodWord w = true) : w ∈ gw := List.mem_filter.mpr ⟨h, g⟩
theorem gw_inCode {y : MethodName} {b : ByteArray} {n : Nat} {r : Option FieldType} {i : Nat} (h : lw_tbl[i]? = some (.code y b n r)) : Cond.code y b n r ∈ gw := gw_in (List.mem_of_getElem? h) rfl
theorem gi_gw {big : List Cond} (hb : ∀ w ∈ gw, w ∈ big) {y : MethodName} {b : ByteArray} {n : Nat} {r : Option FieldType} (h : Cond.code y b n r ∈ gw) : GoodIn big (Cond.code y b n r :: gw) := by
  intro w hw
  rcases List.mem_cons.mp hw with rfl | hw
  · exact ⟨hb _ h, good_of_word (gw_good _ h)⟩
  · exact ⟨hb _ hw, good_of_word (gw_good _ hw)⟩
def isNest : Cond → Bool
  | .fieldLinkNest .. => true
  | .methodLinkNest .. => true
  | _ => false
def nw : List Cond := lw_tbl.filter isNest
theorem nw_in {w : Cond} (h : w ∈ lw_tbl) (g : isNest w = true) : w ∈ nw := List.mem_filter.mpr ⟨h, g⟩
theorem nest_tab {w : Cond} (hn : isNest w = true) : w.onTables = true := by
  unfold isNest at hn
  split at hn
  · rfl
  · rfl
  · cases hn
theorem nest_warm {w : Cond} (hn : isNest w = true) {s U : State} (hW : s.WarmedH U.vm) (h : va_Nw w s) : va_Nw w U := by
  unfold isNest at hn
  split at hn
  · exact va_Nw.warmF hW h
  · exact va_Nw.warmM hW h
  · cases hn
def NW (U : State) : Prop := ∀ w ∈ nw, va_Nw w U
theorem NW.warm {s U : State} (hW : s.WarmedH U.vm) (h : NW s) : NW U := fun w hw => nest_warm (List.mem_filter.mp hw).2 hW (h w hw)
theorem NW.same {u U : State} (hv : u.vm = U.vm) (h : NW u) : NW U := fun w hw => va_Nw.same (nest_tab (List.mem_filter.mp hw).2) hv (h w hw)
def KN (D : va_G) (cI cZ : ClassId) (U : State) : Prop := va_K D classes [(cI, .int), (cZ, .boolean)] U ∧ NW U
theorem KN.warm {D : va_G} {cI cZ : ClassId} {s U : State} (hW : s.WarmedH U.vm) (h : KN D cI cZ s) : KN D cI cZ U := ⟨va_K.moved hW.alike h.1, NW.warm hW h.2⟩
theorem KN.calling {D : va_G} {cI cZ : ClassId} {U : State} {g : JFrame} {mk : MethodId} {a : Array Value} (h : KN D cI cZ U) : KN D cI cZ (U.calling g mk a) := ⟨va_K.moved (u := U) (U := U.calling g mk a) (Vm.Alike.refl U.vm) h.1, NW.same (u := U) (U := U.calling g mk a) rfl h.2⟩
def PcS (D : va_G) (cI cZ : ClassId) (av : List Value) (ws : va_W) (sz : Nat) : Array Value → State → Prop := va_Pc av (fun U => U.heap.size = sz ∧ va_P D classes ws U.heap ∧ KN D cI cZ U ∧ va_D (fun _ => True) ws)
theorem PcS.blind {D : va_G} {cI cZ : ClassId} {av : List Value} {ws : va_W} {sz : Nat} : FrameBlind (PcS D cI cZ av ws sz) := by
  intro a U g mk q
  obtain ⟨q0, q1, qP, qK, qD⟩ := q
  exact ⟨q0, q1, qP, qK.calling, qD⟩
def BS {S : Type} (D : va_G) (wo : S → va_W) (A : Nat → Prop) (u : S) (t : State) : Prop := va_P D classes (wo u) t.heap ∧ va_D A (wo u)
/-- a contract that answers an int (or a boolean) -/
def Mi {S : Type} (l : Launch) (y : MethodName) (cc : ByteArray) (nL : Nat) (ret : Option FieldType) (rm : Room) (D : va_G) (cI cZ : ClassId) (av : List Value) (ws : va_W) (post : Int32 → S → Prop) (wo : S → va_W) : Prop :=
  ∀ sz : Nat, Met l y (.code y cc nL ret :: gw) rm (PcS D cI cZ av ws sz) (va_Qi post (BS D wo (va_A ws sz)) (va_A ws sz)) 0 0 (va_A ws sz)
/-- a contract that answers nothing -/
def Mv {S : Type} (l : Launch) (y : MethodName) (cc : ByteArray) (nL : Nat) (rm : Room) (D : va_G) (cI cZ : ClassId) (av : List Value) (ws : va_W) (post : S → Prop) (wo : S → va_W) (mc ms : Nat) : Prop :=
  ∀ sz : Nat, Met l y (.code y cc nL none :: gw) rm (PcS D cI cZ av ws sz) (va_Qv post (BS D wo (va_A ws sz)) (va_A ws sz)) mc ms (va_A ws sz)
/-- the fixed facts of a walk -/
def Cx (p : Program) (s : State) (m : MethodId) (args : Array Value) (meth : Method) (c : Code) (cc : ByteArray) (nL : Nat) (ret : Option FieldType) (own : String) (D : va_G) (cI cZ : ClassId) (A : Nat → Prop) : Prop :=
  p.tables.exec = Jvm.exec ∧ c.code = cc ∧ c.maxLocals = nL ∧ meth.sig.returnType = ret ∧ meth.locks = false ∧ s.vm.findClass own = some m.cls ∧ (∀ w ∈ gw, w.before args s = true) ∧ KN D cI cZ s ∧ (∀ q, s.heap.size ≤ q → A q)
def Wd (D : va_G) (A : Nat → Prop) (H0 : Heap) (ws : va_W) (H : Heap) (locs : List Loc) : Prop := va_P D classes ws H ∧ va_D A ws ∧ va_S A H0 H locs
def QI {S : Type} (below : List Frame) (D : va_G) (post : Int32 → S → Prop) (wo : S → va_W) (A : Nat → Prop) (args : Array Value) (s : State) : State → Prop := MQ below (va_Qi post (BS D wo A) A) args s 0 0 A
def QV {S : Type} (below : List Frame) (D : va_G) (post : S → Prop) (wo : S → va_W) (A : Nat → Prop) (args : Array Value) (s : State) (mc ms : Nat) : State → Prop := MQ below (va_Qv post (BS D wo A) A) args s mc ms A
theorem Mi.intro {S : Type} {l : Launch} {y : MethodName} {cc : ByteArray} {nL : Nat} {ret : Option FieldType} {rm : Room} {D : va_G} {cI cZ : ClassId} {av : List Value} {ws : va_W} {post : Int32 → S → Prop} {wo : S → va_W} (hy : plainName y.cls = true) (hn : (lg_sl av).length ≤ nL)
    (body : ∀ (p : Program) (e : Env) (s : State) (m : MethodId) (args : Array Value) (below : List Frame) (meth : Method) (c : Code) (A : Nat → Prop) (ls : Array Slot) (R : Room) (Q : State → Prop), R = rm → Q = QI below D post wo A args s → Cx p s m args meth c cc nL ret y.cls D cI cZ A → Wd D A s.heap ws s.heap [] → lv_has ls nL (lv_args 0 av) → W p l e R s m args below meth c s.heap [] 0 0 Q (F0 m 0 ls [])) : Mi l y cc nL ret rm D cI cZ av ws post wo := by
  intro sz
  refine Met.ofW (cc := cc) (maxL := nL) (ret := ret) hy rfl ?_
  intro p e s m args below meth c s₁ B hml hv
  obtain ⟨rfl, hsz, hP, hK, hD0⟩ := hv
  subst hsz
  have hl := lv_entry av (n := nL) hn
  rw [lg_entry_eq]
  exact body p e s m av.toArray below meth c (va_A ws s.heap.size) _ rm _ rfl rfl ⟨B.exec, B.bytes, hml, B.returns, B.notSynchronized, findClass_of_methodNamed B.named, fun w hw => atoms_spec (ws := .code y cc nL ret :: gw) B.pre w (List.mem_cons_of_mem _ hw), hK, fun q h => Or.inr h⟩ ⟨hP, hD0.self (sz := s.heap.size), va_S.rf⟩ hl
theorem Mv.intro {S : Type} {l : Launch} {y : MethodName} {cc : ByteArray} {nL : Nat} {rm : Room} {D : va_G} {cI cZ : ClassId} {av : List Value} {ws : va_W} {post : S → Prop} {wo : S → va_W} {mc ms : Nat} (hy : plainName y.cls = true) (hn : (lg_sl av).length ≤ nL)
    (body : ∀ (p : Program) (e : Env) (s : State) (m : MethodId) (args : Array Value) (below : List Frame) (meth : Method) (c : Code) (A : Nat → Prop) (ls : Array Slot) (R : Room) (Q : State → Prop), R = rm → Q = QV below D post wo A args s mc ms → Cx p s m args meth c cc nL none y.cls D cI cZ A → meth.name = y.name → Wd D A s.heap ws s.heap [] → lv_has ls nL (lv_args 0 av) → W p l e R s m args below meth c s.heap [] 0 0 Q (F0 m 0 ls [])) : Mv l y cc nL rm D cI cZ av ws post wo mc ms := by
  intro sz
  refine Met.ofW (cc := cc) (maxL := nL) (ret := none) hy rfl ?_
  intro p e s m args below meth c s₁ B hml hv
  obtain ⟨rfl, hsz, hP, hK, hD0⟩ := hv
  subst hsz
  have hl := lv_entry av (n := nL) hn
  rw [lg_entry_eq]
  exact body p e s m av.toArray below meth c (va_A ws s.heap.size) _ rm _ rfl rfl ⟨B.exec, B.bytes, hml, B.returns, B.notSynchronized, findClass_of_methodNamed B.named, fun w hw => atoms_spec (ws := .code y cc nL none :: gw) B.pre w (List.mem_cons_of_mem _ hw), hK, fun q h => Or.inr h⟩ (name_of_methodNamed B.named B.method).1 ⟨hP, hD0.self (sz := s.heap.size), va_S.rf⟩ hl
/-! arrays of naturals -/
def aN (f : Nat → Nat) : Nat → Int32 := fun j => nI (f j)
def aM (f : Nat → Nat) : Nat → Int32 := fun j => nI (f j) - 1
def updN (f : Nat → Nat) (k x : Nat) : Nat → Nat := fun j => if j = k then x else f j
theorem upd_aN (f : Nat → Nat) (k x : Nat) : upd (aN f) k (nI x) = aN (updN f k x) := by
  funext j
  unfold upd aN updN
  by_cases h : j = k
  · simp [h]
  · simp [h]
theorem upd_aM (f : Nat → Nat) (k x : Nat) : upd (aM f) k (nI x) = aM (updN f k (x + 1)) := by
  funext j
  unfold upd aM updN
  by_cases h : j = k
  · simp only [h, if_true]; exact (nI_pred x).symm
  · simp [h]
theorem updN_self (f : Nat → Nat) (k : Nat) : updN f k (f k) = f := by
  funext j
  unfold updN
  by_cases h : j = k
  · simp [h]
  · simp [h]
/-- a field as an instruction of class own names it -/
def fdK (own : String) (index ci k : Nat) (fin : Bool) (ty : FieldType) : Prop := ∃ (Cn : String) (T : u_T) (N : Nat) (ty0 : Nat → FieldType), classes[ci]? = some (Cn, T, N) ∧ k < N ∧ (∀ w ∈ u_ws Cn T N, w ∈ gw) ∧ (∀ j, j < N → parseFieldDescriptor (T j).2.2.1 = some (ty0 j)) ∧ (∀ a, a < N → ∀ b, b < N → a ≠ b → (T a).2.1 ≠ (T b).2.1) ∧ (T k).2.2.2 = fin ∧ ty0 k = ty ∧ (T k).1 = own ∧ Cond.fieldLink own index (T k).1 (T k).2.1 (T k).2.2.1 ∈ gw
/-- the same, of a nest mate -/
def fdN (own : String) (index ci k : Nat) : Prop := ∃ (Cn : String) (T : u_T) (N : Nat) (host : String), classes[ci]? = some (Cn, T, N) ∧ k < N ∧ (∀ w ∈ u_ws Cn T N, w ∈ gw) ∧ Cond.fieldLinkNest own index (T k).1 (T k).2.1 (T k).2.2.1 host ∈ nw
section ROWS
variable {p : Program} {l : Launch} {e : Env} {R : Room} {s : State} {m : MethodId} {args : Array Value} {below : List Frame} {meth : Method} {c : Code} {H : Heap} {locs : List Loc} {cells slots : Nat} {Q : State → Prop}
variable {cc : ByteArray} {pc nL : Nat} {ret : Option FieldType} {own : String} {ls : Array Slot} {rest : List Value} {D : va_G} {cI cZ : ClassId} {A : Nat → Prop} {ws ws' : va_W}
theorem r_get (C : Cx p s m args meth c cc nL ret own D cI cZ A) (Z : Wd D A s.heap ws H locs) {a ci k index : Nat} {fin : Bool} {ty : FieldType} {fs : List Value} {v : Value} (q0 : Nat) (F : fdK own index ci k fin ty) (he : ws[q0]? = some (a, .inr (ci, fs))) (hv : fs[k]? = some v) (hdg : decode cc pc = .ok (.getfield index, 3))
    (kk : W p l e R s m args below meth c H locs cells slots Q (F0 m (pc + 3) ls (v :: rest))) : W p l e R s m args below meth c H locs cells slots Q (F0 m pc ls (.ref a :: rest)) := by
  obtain ⟨hx, hb, -, -, -, hown, hts, hK, -⟩ := C
  obtain ⟨Cn, T, N, ty0, h1, h2, h3, h4, h5, h6, h7, h8, h9⟩ := F
  exact va_get hx hb hts h3 hown hK.1 Z.1 q0 he h1 k h2 (hts _ h9) (fun _ h => h) hv hdg kk
theorem r_getN (C : Cx p s m args meth c cc nL ret own D cI cZ A) (Z : Wd D A s.heap ws H locs) {a ci k index : Nat} {fs : List Value} {v : Value} (q0 : Nat) (F : fdN own index ci k) (he : ws[q0]? = some (a, .inr (ci, fs))) (hv : fs[k]? = some v) (hdg : decode cc pc = .ok (.getfield index, 3))
    (kk : W p l e R s m args below meth c H locs cells slots Q (F0 m (pc + 3) ls (v :: rest))) : W p l e R s m args below meth c H locs cells slots Q (F0 m pc ls (.ref a :: rest)) := by
  obtain ⟨hx, hb, -, -, -, hown, hts, hK, -⟩ := C
  obtain ⟨Cn, T, N, host, h1, h2, h3, h9⟩ := F
  exact va_getN hx hb hts h3 hown hK.1 Z.1 q0 he h1 k h2 (va_Nw.use rfl (hK.2 _ h9)) (fun _ h => h) hv hdg kk
theorem r_put (C : Cx p s m args meth c cc nL ret own D cI cZ A) (Z : Wd D A s.heap ws H locs) {a ci k index : Nat} {ty : FieldType} {fs : List Value} {v : Value} (q0 : Nat) (F : fdK own index ci k false ty) (he : ws[q0]? = some (a, .inr (ci, fs))) (hn : narrow ty v = v) (hfit : fits ty v = true) (hl : k < fs.length) (hw : ws.set q0 (a, .inr (ci, fs.set k v)) = ws') (hdg : decode cc pc = .ok (.putfield index, 3))
    (kk : ∀ (H1 : Heap) (locs1 : List Loc), Wd D A s.heap ws' H1 locs1 → W p l e R s m args below meth c H1 locs1 cells slots Q (F0 m (pc + 3) ls rest)) : W p l e R s m args below meth c H locs cells slots Q (F0 m pc ls (v :: .ref a :: rest)) := by
  obtain ⟨hx, hb, -, -, -, hown, hts, hK, -⟩ := C
  obtain ⟨Cn, T, N, ty0, h1, h2, h3, h4, h5, h6, h7, h8, h9⟩ := F
  subst hw
  exact va_put hx hb hts h3 ty0 h4 h5 hown hK.1 Z.1 Z.2.1 Z.2.2 q0 he h1 k h2 (hts _ h9) (fun _ h => h) h6 (ty := ty) (by rw [h4 k h2, h7]) hn hfit hl hdg (fun H1 locs1 a1 a2 a3 => kk H1 locs1 ⟨a1, a2, a3⟩)
theorem r_putF (C : Cx p s m args meth c cc nL ret own D cI cZ A) (Z : Wd D A s.heap ws H locs) (hin : meth.name = "<init>") {a ci k index : Nat} {ty : FieldType} {fs : List Value} {v : Value} (q0 : Nat) (F : fdK own index ci k true ty) (he : ws[q0]? = some (a, .inr (ci, fs))) (hn : narrow ty v = v) (hfit : fits ty v = true) (hl : k < fs.length) (hw : ws.set q0 (a, .inr (ci, fs.set k v)) = ws') (hdg : decode cc pc = .ok (.putfield index, 3))
    (kk : ∀ (H1 : Heap) (locs1 : List Loc), Wd D A s.heap ws' H1 locs1 → W p l e R s m args below meth c H1 locs1 cells slots Q (F0 m (pc + 3) ls rest)) : W p l e R s m args below meth c H locs cells slots Q (F0 m pc ls (v :: .ref a :: rest)) := by
  obtain ⟨hx, hb, -, -, -, hown, hts, hK, -⟩ := C
  obtain ⟨Cn, T, N, ty0, h1, h2, h3, h4, h5, h6, h7, h8, h9⟩ := F
  subst hw
  exact va_putF hx hb hts h3 ty0 h4 h5 hown hK.1 Z.1 Z.2.1 Z.2.2 q0 he h1 k h2 (hts _ h9) (fun _ h => h) h6 hin h8 (ty := ty) (by rw [h4 k h2, h7]) hn hfit hl hdg (fun H1 locs1 a1 a2 a3 => kk H1 locs1 ⟨a1, a2, a3⟩)
theorem r_ild (C : Cx p s m args meth c cc nL ret own D cI cZ A) (Z : Wd D A s.heap ws H locs) {a n i : Nat} {f : Nat → Int32} (q0 : Nat) (he : ws[q0]? = some (a, .inl (cI, n, .inl f))) (hi : i < n) (hn : n < 2 ^ 31) (hdg : decode cc pc = .ok (.iaload, 1))
    (kk : W p l e R s m args below meth c H locs cells slots Q (F0 m (pc + 1) ls (.int (f i) :: rest))) : W p l e R s m args below meth c H locs cells slots Q (F0 m pc ls (.int (nI i) :: .ref a :: rest)) := by
  refine va_iald C.1 C.2.1 C.2.2.2.2.2.2.2.1.1 Z.1 q0 0 he rfl (vp_in_nI hi hn) hdg ?_
  rw [nI_clamp (by omega)]
  exact kk
theorem r_ildN (C : Cx p s m args meth c cc nL ret own D cI cZ A) (Z : Wd D A s.heap ws H locs) {a n i : Nat} {f : Nat → Nat} (q0 : Nat) (he : ws[q0]? = some (a, .inl (cI, n, .inl (aN f)))) (hi : i < n) (hn : n < 2 ^ 31) (hdg : decode cc pc = .ok (.iaload, 1))
    (kk : W p l e R s m args below meth c H locs cells slots Q (F0 m (pc + 1) ls (.int (nI (f i)) :: rest))) : W p l e R s m args below meth c H locs cells slots Q (F0 m pc ls (.int (nI i) :: .ref a :: rest)) := r_ild C Z q0 he hi hn hdg kk
theorem r_ildM (C : Cx p s m args meth c cc nL ret own D cI cZ A) (Z : Wd D A s.heap ws H locs) {a n i : Nat} {f : Nat → Nat} (q0 : Nat) (he : ws[q0]? = some (a, .inl (cI, n, .inl (aM f)))) (hi : i < n) (hn : n < 2 ^ 31) (hdg : decode cc pc = .ok (.iaload, 1))
    (kk : W p l e R s m args below meth c H locs cells slots Q (F0 m (pc + 1) ls (.int (nI (f i) - 1) :: rest))) : W p l e R s m args below meth c H locs cells slots Q (F0 m pc ls (.int (nI i) :: .ref a :: rest)) := r_ild C Z q0 he hi hn hdg kk
theorem r_zldN (C : Cx p s m args meth c cc nL ret own D cI cZ A) (Z : Wd D A s.heap ws H locs) {a n i : Nat} {f : Nat → Nat} (q0 : Nat) (he : ws[q0]? = some (a, .inl (cZ, n, .inl (aN f)))) (hi : i < n) (hn : n < 2 ^ 31) (hdg : decode cc pc = .ok (.baload, 1))
    (kk : W p l e R s m args below meth c H locs cells slots Q (F0 m (pc + 1) ls (.int (nI (f i)) :: rest))) : W p l e R s m args below meth c H locs cells slots Q (F0 m pc ls (.int (nI i) :: .ref a :: rest)) := by
  refine va_zald C.1 C.2.1 C.2.2.2.2.2.2.2.1.1 Z.1 q0 1 he rfl (vp_in_nI hi hn) hdg ?_
  rw [nI_clamp (by omega)]
  exact kk
theorem r_ist (C : Cx p s m args meth c cc nL ret own D cI cZ A) (Z : Wd D A s.heap ws H locs) {a n i : Nat} {x : Int32} {f g : Nat → Int32} (q0 : Nat) (he : ws[q0]? = some (a, .inl (cI, n, .inl f))) (hi : i < n) (hn : n < 2 ^ 31) (hg : upd f i x = g) (hw : ws.set q0 (a, .inl (cI, n, .inl g)) = ws') (hdg : decode cc pc = .ok (.iastore, 1))
    (kk : ∀ (H1 : Heap) (locs1 : List Loc), Wd D A s.heap ws' H1 locs1 → W p l e R s m args below meth c H1 locs1 cells slots Q (F0 m (pc + 1) ls rest)) : W p l e R s m args below meth c H locs cells slots Q (F0 m pc ls (.int x :: .int (nI i) :: .ref a :: rest)) := by
  subst hw
  subst hg
  refine va_iast C.1 C.2.1 C.2.2.2.2.2.2.2.1.1 Z.1 Z.2.1 Z.2.2 q0 0 he rfl (vp_in_nI hi hn) hdg (fun H1 locs1 a1 a2 a3 => ?_)
  rw [nI_clamp (by omega)] at a1 a2
  exact kk H1 locs1 ⟨a1, a2, a3⟩
theorem r_istN (C : Cx p s m args meth c cc nL ret own D cI cZ A) (Z : Wd D A s.heap ws H locs) {a n i x : Nat} {f : Nat → Nat} (q0 : Nat) (he : ws[q0]? = some (a, .inl (cI, n, .inl (aN f)))) (hi : i < n) (hn : n < 2 ^ 31) (hw : ws.set q0 (a, .inl (cI, n, .inl (aN (updN f i x)))) = ws') (hdg : decode cc pc = .ok (.iastore, 1))
    (kk : ∀ (H1 : Heap) (locs1 : List Loc), Wd D A s.heap ws' H1 locs1 → W p l e R s m args below meth c H1 locs1 cells slots Q (F0 m (pc + 1) ls rest)) : W p l e R s m args below meth c H locs cells slots Q (F0 m pc ls (.int (nI x) :: .int (nI i) :: .ref a :: rest)) := r_ist C Z q0 he hi hn (upd_aN f i x) hw hdg kk
theorem r_istM (C : Cx p s m args meth c cc nL ret own D cI cZ A) (Z : Wd D A s.heap ws H locs) {a n i x : Nat} {f : Nat → Nat} (q0 : Nat) (he : ws[q0]? = some (a, .inl (cI, n, .inl (aM f)))) (hi : i < n) (hn : n < 2 ^ 31) (hw : ws.set q0 (a, .inl (cI, n, .inl (aM (updN f i (x + 1))))) = ws') (hdg : decode cc pc = .ok (.iastore, 1))
    (kk : ∀ (H1 : Heap) (locs1 : List Loc), Wd D A s.heap ws' H1 locs1 → W p l e R s m args below meth c H1 locs1 cells slots Q (F0 m (pc + 1) ls rest)) : W p l e R s m args below meth c H locs cells slots Q (F0 m pc ls (.int (nI x) :: .int (nI i) :: .ref a :: rest)) := r_ist C Z q0 he hi hn (upd_aM f i x) hw hdg kk
theorem nar_bool {x : Nat} (hx : x ≤ 1) : vp_nar .boolean (nI x) = nI x := by
  rcases (show x = 0 ∨ x = 1 by omega) with rfl | rfl <;> decide
theorem r_zstN (C : Cx p s m args meth c cc nL ret own D cI cZ A) (Z : Wd D A s.heap ws H locs) {a n i x : Nat} {f : Nat → Nat} (q0 : Nat) (he : ws[q0]? = some (a, .inl (cZ, n, .inl (aN f)))) (hi : i < n) (hn : n < 2 ^ 31) (hx : x ≤ 1) (hw : ws.set q0 (a, .inl (cZ, n, .inl (aN (updN f i x)))) = ws') (hdg : decode cc pc = .ok (.bastore, 1))
    (kk : ∀ (H1 : Heap) (locs1 : List Loc), Wd D A s.heap ws' H1 locs1 → W p l e R s m args below meth c H1 locs1 cells slots Q (F0 m (pc + 1) ls rest)) : W p l e R s m args below meth c H locs cells slots Q (F0 m pc ls (.int (nI x) :: .int (nI i) :: .ref a :: rest)) := by
  subst hw
  refine va_zast C.1 C.2.1 C.2.2.2.2.2.2.2.1.1 Z.1 Z.2.1 Z.2.2 q0 1 he rfl (vp_in_nI hi hn) hdg (fun H1 locs1 a1 a2 a3 => ?_)
  rw [nI_clamp (by omega), nar_bool hx, upd_aN] at a1 a2
  exact kk H1 locs1 ⟨a1, a2, a3⟩
/-! numbers -/
theorem r_add (C : Cx p s m args meth c cc nL ret own D cI cZ A) {x y : Nat} (hdg : decode cc pc = .ok (.iadd, 1)) (k : W p l e R s m args below meth c H locs cells slots Q (F0 m (pc + 1) ls (.int (nI (x + y)) :: rest))) : W p l e R s m args below meth c H locs cells slots Q (F0 m pc ls (.int (nI y) :: .int (nI x) :: rest)) := lv_iadd C.1 C.2.1 hdg (by rw [nI_add]; exact k)
theorem r_sub (C : Cx p s m args meth c cc nL ret own D cI cZ A) {x y : Nat} (h : y ≤ x) (hdg : decode cc pc = .ok (.isub, 1)) (k : W p l e R s m args below meth c H locs cells slots Q (F0 m (pc + 1) ls (.int (nI (x - y)) :: rest))) : W p l e R s m args below meth c H locs cells slots Q (F0 m pc ls (.int (nI y) :: .int (nI x) :: rest)) := lv_isub C.1 C.2.1 hdg (by rw [pk_sub h]; exact k)
theorem r_mul (C : Cx p s m args meth c cc nL ret own D cI cZ A) {x y : Nat} (hdg : decode cc pc = .ok (.imul, 1)) (k : W p l e R s m args below meth c H locs cells slots Q (F0 m (pc + 1) ls (.int (nI (x * y)) :: rest))) : W p l e R s m args below meth c H locs cells slots Q (F0 m pc ls (.int (nI y) :: .int (nI x) :: rest)) := lv_imul C.1 C.2.1 hdg (by rw [pk_mul]; exact k)
theorem r_lt (C : Cx p s m args meth c cc nL ret own D cI cZ A) {x y tgt : Nat} {off : Int} (hdg : decode cc pc = .ok (.if_icmp .lt off, 3)) (ht : (pc : Int) + off = (tgt : Int)) (hx : x < 2 ^ 31) (hy : y < 2 ^ 31)
    (kt : x < y → W p l e R s m args below meth c H locs cells slots Q (F0 m tgt ls rest)) (kf : y ≤ x → W p l e R s m args below meth c H locs cells slots Q (F0 m (pc + 3) ls rest)) : W p l e R s m args below meth c H locs cells slots Q (F0 m pc ls (.int (nI y) :: .int (nI x) :: rest)) :=
  lv_icmp_lt C.1 C.2.1 hdg ht (fun h => kt ((nI_ltI hx hy).mp h)) (fun h => kf (Nat.le_of_not_lt (fun q => h ((nI_ltI hx hy).mpr q))))
theorem r_ge (C : Cx p s m args meth c cc nL ret own D cI cZ A) {x y tgt : Nat} {off : Int} (hdg : decode cc pc = .ok (.if_icmp .ge off, 3)) (ht : (pc : Int) + off = (tgt : Int)) (hx : x < 2 ^ 31) (hy : y < 2 ^ 31)
    (kt : y ≤ x → W p l e R s m args below meth c H locs cells slots Q (F0 m tgt ls rest)) (kf : x < y → W p l e R s m args below meth c H locs cells slots Q (F0 m (pc + 3) ls rest)) : W p l e R s m args below meth c H locs cells slots Q (F0 m pc ls (.int (nI y) :: .int (nI x) :: rest)) :=
  lv_icmp_ge C.1 C.2.1 hdg ht (fun h => kt ((nI_leI hy hx).mp h)) (fun h => kf (Nat.lt_of_not_le (fun q => h ((nI_leI hy hx).mpr q))))
theorem r_gt (C : Cx p s m args meth c cc nL ret own D cI cZ A) {x y tgt : Nat} {off : Int} (hdg : decode cc pc = .ok (.if_icmp .gt off, 3)) (ht : (pc : Int) + off = (tgt : Int)) (hx : x < 2 ^ 31) (hy : y < 2 ^ 31)
    (kt : y < x → W p l e R s m args below meth c H locs cells slots Q (F0 m tgt ls rest)) (kf : x ≤ y → W p l e R s m args below meth c H locs cells slots Q (F0 m (pc + 3) ls rest)) : W p l e R s m args below meth c H locs cells slots Q (F0 m pc ls (.int (nI y) :: .int (nI x) :: rest)) :=
  lv_icmp_gt C.1 C.2.1 hdg ht (fun h => kt ((nI_ltI hy hx).mp h)) (fun h => kf (Nat.le_of_not_lt (fun q => h ((nI_ltI hy hx).mpr q))))
theorem r_le (C : Cx p s m args meth c cc nL ret own D cI cZ A) {x y tgt : Nat} {off : Int} (hdg : decode cc pc = .ok (.if_icmp .le off, 3)) (ht : (pc : Int) + off = (tgt : Int)) (hx : x < 2 ^ 31) (hy : y < 2 ^ 31)
    (kt : x ≤ y → W p l e R s m args below meth c H locs cells slots Q (F0 m tgt ls rest)) (kf : y < x → W p l e R s m args below meth c H locs cells slots Q (F0 m (pc + 3) ls rest)) : W p l e R s m args below meth c H locs cells slots Q (F0 m pc ls (.int (nI y) :: .int (nI x) :: rest)) :=
  lv_icmp_le C.1 C.2.1 hdg ht (fun h => kt ((nI_leI hx hy).mp h)) (fun h => kf (Nat.lt_of_not_le (fun q => h ((nI_leI hx hy).mpr q))))
theorem r_eq (C : Cx p s m args meth c cc nL ret own D cI cZ A) {x y tgt : Nat} {off : Int} (hdg : decode cc pc = .ok (.if_icmp .eq off, 3)) (ht : (pc : Int) + off = (tgt : Int)) (hx : x < 2 ^ 31) (hy : y < 2 ^ 31)
    (kt : x = y → W p l e R s m args below meth c H locs cells slots Q (F0 m tgt ls rest)) (kf : x ≠ y → W p l e R s m args below meth c H locs cells slots Q (F0 m (pc + 3) ls rest)) : W p l e R s m args below meth c H locs cells slots Q (F0 m pc ls (.int (nI y) :: .int (nI x) :: rest)) :=
  lv_icmp_eq C.1 C.2.1 hdg ht (fun h => kt ((nI_eq hx hy).mp h)) (fun h => kf (fun q => h ((nI_eq hx hy).mpr q)))
theorem r_ne (C : Cx p s m args meth c cc nL ret own D cI cZ A) {x y tgt : Nat} {off : Int} (hdg : decode cc pc = .ok (.if_icmp .ne off, 3)) (ht : (pc : Int) + off = (tgt : Int)) (hx : x < 2 ^ 31) (hy : y < 2 ^ 31)
    (kt : x ≠ y → W p l e R s m args below meth c H locs cells slots Q (F0 m tgt ls rest)) (kf : x = y → W p l e R s m args below meth c H locs cells slots Q (F0 m (pc + 3) ls rest)) : W p l e R s m args below meth c H locs cells slots Q (F0 m pc ls (.int (nI y) :: .int (nI x) :: rest)) :=
  lv_icmp_ne C.1 C.2.1 hdg ht (fun h => kt (fun q => h ((nI_eq hx hy).mpr q))) (fun h => kf ((nI_eq hx hy).mp h))
theorem r_zeq (C : Cx p s m args meth c cc nL ret own D cI cZ A) {x tgt : Nat} {off : Int} (hdg : decode cc pc = .ok (.ifCond .eq off, 3)) (ht : (pc : Int) + off = (tgt : Int)) (hx : x < 2 ^ 31)
    (kt : x = 0 → W p l e R s m args below meth c H locs cells slots Q (F0 m tgt ls rest)) (kf : x ≠ 0 → W p l e R s m args below meth c H locs cells slots Q (F0 m (pc + 3) ls rest)) : W p l e R s m args below meth c H locs cells slots Q (F0 m pc ls (.int (nI x) :: rest)) :=
  lv_if_eq C.1 C.2.1 hdg ht (fun h => kt ((nI_eq hx (by decide)).mp (h.trans nI_0.symm))) (fun h => kf (fun q => h (by rw [q]; exact nI_0)))
theorem r_zne (C : Cx p s m args meth c cc nL ret own D cI cZ A) {x tgt : Nat} {off : Int} (hdg : decode cc pc = .ok (.ifCond .ne off, 3)) (ht : (pc : Int) + off = (tgt : Int)) (hx : x < 2 ^ 31)
    (kt : x ≠ 0 → W p l e R s m args below meth c H locs cells slots Q (F0 m tgt ls rest)) (kf : x = 0 → W p l e R s m args below meth c H locs cells slots Q (F0 m (pc + 3) ls rest)) : W p l e R s m args below meth c H locs cells slots Q (F0 m pc ls (.int (nI x) :: rest)) :=
  lv_if_ne C.1 C.2.1 hdg ht (fun h => kt (fun q => h (by rw [q]; exact nI_0))) (fun h => kf ((nI_eq hx (by decide)).mp (h.trans nI_0.symm)))
theorem r_zlt (C : Cx p s m args meth c cc nL ret own D cI cZ A) {x tgt : Nat} {off : Int} (hdg : decode cc pc = .ok (.ifCond .lt off, 3)) (ht : (pc : Int) + off = (tgt : Int)) (hx : x < 2 ^ 31)
    (kf : W p l e R s m args below meth c H locs cells slots Q (F0 m (pc + 3) ls rest)) : W p l e R s m args below meth c H locs cells slots Q (F0 m pc ls (.int (nI x) :: rest)) :=
  lv_if_lt C.1 C.2.1 hdg ht (fun h => absurd h (nI_pos hx)) (fun _ => kf)
theorem r_zge (C : Cx p s m args meth c cc nL ret own D cI cZ A) {x tgt : Nat} {off : Int} (hdg : decode cc pc = .ok (.ifCond .ge off, 3)) (ht : (pc : Int) + off = (tgt : Int)) (hx : x < 2 ^ 31)
    (kt : W p l e R s m args below meth c H locs cells slots Q (F0 m tgt ls rest)) : W p l e R s m args below meth c H locs cells slots Q (F0 m pc ls (.int (nI x) :: rest)) :=
  lv_if_ge C.1 C.2.1 hdg ht (fun _ => kt) (fun h => absurd (nI_pos' hx) h)
theorem r_zle (C : Cx p s m args meth c cc nL ret own D cI cZ A) {x tgt : Nat} {off : Int} (hdg : decode cc pc = .ok (.ifCond .le off, 3)) (ht : (pc : Int) + off = (tgt : Int)) (hx : x < 2 ^ 31)
    (kt : x = 0 → W p l e R s m args below meth c H locs cells slots Q (F0 m tgt ls rest)) (kf : 0 < x → W p l e R s m args below meth c H locs cells slots Q (F0 m (pc + 3) ls rest)) : W p l e R s m args below meth c H locs cells slots Q (F0 m pc ls (.int (nI x) :: rest)) :=
  lv_if_le C.1 C.2.1 hdg ht (fun h => kt (Nat.eq_zero_of_not_pos (fun q => nI_nle q hx h))) (fun h => kf (Nat.pos_of_ne_zero (fun q => h (by rw [q]; decide))))
theorem r_iret {S : Type} {post : Int32 → S → Prop} {wo : S → va_W} (C : Cx p s m args meth c cc nL (some .int) own D cI cZ A) (Z : Wd D A s.heap ws H locs) {r : Int32} (u : S) (hp : post r u) (hw : wo u = ws) (hQ : Q = QI below D post wo A args s) (hdg : decode cc pc = .ok (.ireturn, 1)) : W p l e R s m args below meth c H locs 0 0 Q (F0 m pc ls [.int r]) := by
  subst hw
  subst hQ
  exact W.iret C.1 C.2.1 C.2.2.2.1 (fun t ht _ => ⟨⟨r, u, rfl, hp, by rw [ht]; exact Z.1, Z.2.1⟩, Z.2.2.F ht⟩) Z.2.2.2.2 hdg C.2.2.2.2.1
theorem nar_b {x : Nat} (hx : x ≤ 1) : narrow .boolean (.int (nI x)) = .int (nI x) := by
  rcases (show x = 0 ∨ x = 1 by omega) with rfl | rfl <;> rfl
theorem r_zret {S : Type} {post : Int32 → S → Prop} {wo : S → va_W} (C : Cx p s m args meth c cc nL (some .boolean) own D cI cZ A) (Z : Wd D A s.heap ws H locs) {x : Nat} (hx : x ≤ 1) (u : S) (hp : post (nI x) u) (hw : wo u = ws) (hQ : Q = QI below D post wo A args s) (hdg : decode cc pc = .ok (.ireturn, 1)) : W p l e R s m args below meth c H locs 0 0 Q (F0 m pc ls [.int (nI x)]) := by
  subst hw
  subst hQ
  exact W.zret C.1 C.2.1 C.2.2.2.1 (nar_b hx) (fun t ht _ => ⟨⟨nI x, u, rfl, hp, by rw [ht]; exact Z.1, Z.2.1⟩, Z.2.2.F ht⟩) Z.2.2.2.2 hdg C.2.2.2.2.1
theorem r_vret {S : Type} {post : S → Prop} {wo : S → va_W} (C : Cx p s m args meth c cc nL none own D cI cZ A) (Z : Wd D A s.heap ws H locs) (u : S) (hp : post u) (hw : wo u = ws) (hQ : Q = QV below D post wo A args s cells slots) (hdg : decode cc pc = .ok (.return_, 1)) : W p l e R s m args below meth c H locs cells slots Q (F0 m pc ls []) := by
  subst hw
  subst hQ
  exact W.vret C.1 C.2.1 C.2.2.2.1 (fun t ht _ => ⟨⟨u, rfl, hp, by rw [ht]; exact Z.1, Z.2.1⟩, Z.2.2.F ht⟩) Z.2.2.2.2 hdg C.2.2.2.2.1
theorem fit_b {x : Nat} (hx : x ≤ 1) : fits .boolean (.int (nI x)) = true := by
  rcases (show x = 0 ∨ x = 1 by omega) with rfl | rfl <;> rfl
theorem r_inc1 (x : Nat) : nI x + Int32.ofInt 1 = nI (x + 1) := nI_1 x
theorem m1_sub {x : Nat} (h : x ≠ 0) : nI x - 1 = nI (x - 1) := pk_sub (a := x) (b := 1) (by omega)
theorem m1_eq {x : Nat} (hx : x < 2 ^ 31) : nI x - 1 = -1 ↔ x = 0 := by
  constructor
  · intro h
    rcases Nat.eq_zero_or_pos x with q | q
    · exact q
    · rw [m1_sub (by omega)] at h
      exact absurd (show nI (x - 1) < 0 by rw [h]; decide) (nI_pos (by omega))
  · intro h
    rw [h]
    decide
theorem r_mmin (C : Cx p s m args meth c cc nL ret own D cI cZ A) {index : Nat} (K : Cond.methodLink own index Lib.Math.min.name ∈ gw ∧ Cond.static Lib.Math.min.name ∈ gw ∧ Cond.initialized "java/lang/Math" ∈ gw ∧ Cond.code Lib.Math.min.name Lib.Math.min.code 2 (some .int) ∈ gw) (hls : ls.size = nL) (hf : 1 ≤ R.frames) (hlo : (rest.map fun v => v.category).sum + 13 ≤ R.locals) (hc : cells ≤ R.cells) (hs : slots ≤ R.slots) {x y : Nat} (hx : x < 2 ^ 31) (hy : y < 2 ^ 31) (hdg : decode cc pc = .ok (.invokestatic index, 3))
    (kk : W p l e R s m args below meth c H locs cells slots Q (F0 m (pc + 3) ls (.int (nI (min x y)) :: rest))) : W p l e R s m args below meth c H locs cells slots Q (F0 m pc ls (.int (nI y) :: .int (nI x) :: rest)) := by
  have hts := C.2.2.2.2.2.2.1
  refine va_mmin C.1 C.2.1 (C.2.2.1.trans hls.symm) C.2.2.2.2.2.1 (hts _ K.1) (hts _ K.2.1) (hts _ K.2.2.1) (hts _ K.2.2.2) hf hlo hc hs hdg ?_
  have h2 : (if nI y < nI x then nI y else nI x) = nI (min x y) := by
    by_cases h : y < x
    · rw [if_pos ((nI_ltI hy hx).mpr h), Nat.min_eq_right (by omega)]
    · rw [if_neg (fun q => h ((nI_ltI hy hx).mp q)), Nat.min_eq_left (by omega)]
  rw [h2]
  exact kk
theorem r_mmax (C : Cx p s m args meth c cc nL ret own D cI cZ A) {index : Nat} (K : Cond.methodLink own index Lib.Math.max.name ∈ gw ∧ Cond.static Lib.Math.max.name ∈ gw ∧ Cond.initialized "java/lang/Math" ∈ gw ∧ Cond.code Lib.Math.max.name Lib.Math.max.code 2 (some .int) ∈ gw) (hls : ls.size = nL) (hf : 1 ≤ R.frames) (hlo : (rest.map fun v => v.category).sum + 13 ≤ R.locals) (hc : cells ≤ R.cells) (hs : slots ≤ R.slots) {x y : Nat} (hx : x < 2 ^ 31) (hy : y < 2 ^ 31) (hdg : decode cc pc = .ok (.invokestatic index, 3))
    (kk : W p l e R s m args below meth c H locs cells slots Q (F0 m (pc + 3) ls (.int (nI (max x y)) :: rest))) : W p l e R s m args below meth c H locs cells slots Q (F0 m pc ls (.int (nI y) :: .int (nI x) :: rest)) := by
  have hts := C.2.2.2.2.2.2.1
  refine va_mmax C.1 C.2.1 (C.2.2.1.trans hls.symm) C.2.2.2.2.2.1 (hts _ K.1) (hts _ K.2.1) (hts _ K.2.2.1) (hts _ K.2.2.2) hf hlo hc hs hdg ?_
  have h2 : (if nI x < nI y then nI y else nI x) = nI (max x y) := by
    by_cases h : x < y
    · rw [if_pos ((nI_ltI hx hy).mpr h), Nat.max_eq_right (by omega)]
    · rw [if_neg (fun q => h ((nI_ltI hx hy).mp q)), Nat.max_eq_left (by omega)]
  rw [h2]
  exact kk
theorem r_lmul (C : Cx p s m args meth c cc nL ret own D cI cZ A) {x y : Nat} (hdg : decode cc pc = .ok (.lmul, 1)) (k : W p l e R s m args below meth c H locs cells slots Q (F0 m (pc + 1) ls (.long (lN (x * y)) :: rest))) : W p l e R s m args below meth c H locs cells slots Q (F0 m pc ls (.long (lN y) :: .long (lN x) :: rest)) := lv_lmul C.1 C.2.1 hdg (by rw [lN_mul]; exact k)
theorem r_ladd (C : Cx p s m args meth c cc nL ret own D cI cZ A) {x y : Nat} (hdg : decode cc pc = .ok (.ladd, 1)) (k : W p l e R s m args below meth c H locs cells slots Q (F0 m (pc + 1) ls (.long (lN (x + y)) :: rest))) : W p l e R s m args below meth c H locs cells slots Q (F0 m pc ls (.long (lN y) :: .long (lN x) :: rest)) := lv_ladd C.1 C.2.1 hdg (by rw [lN_add]; exact k)
theorem r_lceq (C : Cx p s m args meth c cc nL ret own D cI cZ A) {x y tgt : Nat} {off : Int} (hd1 : decode cc pc = .ok (.lcmp, 1)) (hd2 : decode cc (pc + 1) = .ok (.ifCond .eq off, 3)) (ht : ((pc + 1 : Nat) : Int) + off = (tgt : Int)) (hx : x < 2 ^ 31) (hy : y < 2 ^ 31)
    (kt : x = y → W p l e R s m args below meth c H locs cells slots Q (F0 m tgt ls rest)) (kf : x ≠ y → W p l e R s m args below meth c H locs cells slots Q (F0 m (pc + 1 + 3) ls rest)) : W p l e R s m args below meth c H locs cells slots Q (F0 m pc ls (.long (lN y) :: .long (lN x) :: rest)) :=
  W.lcmp C.1 C.2.1 hd1 (lv_if_eq C.1 C.2.1 hd2 ht (fun h => kt ((lN_eq hx hy).mp ((lg_cmp_eq _ _).mp h))) (fun h => kf (fun q => h ((lg_cmp_eq _ _).mpr ((lN_eq hx hy).mpr q)))))
theorem r_lcle (C : Cx p s m args meth c cc nL ret own D cI cZ A) {x y tgt : Nat} {off : Int} (hd1 : decode cc pc = .ok (.lcmp, 1)) (hd2 : decode cc (pc + 1) = .ok (.ifCond .le off, 3)) (ht : ((pc + 1 : Nat) : Int) + off = (tgt : Int)) (hx : x < 2 ^ 31) (hy : y < 2 ^ 31)
    (kt : x ≤ y → W p l e R s m args below meth c H locs cells slots Q (F0 m tgt ls rest)) (kf : y < x → W p l e R s m args below meth c H locs cells slots Q (F0 m (pc + 1 + 3) ls rest)) : W p l e R s m args below meth c H locs cells slots Q (F0 m pc ls (.long (lN y) :: .long (lN x) :: rest)) :=
  W.lcmp C.1 C.2.1 hd1 (lv_if_le C.1 C.2.1 hd2 ht (fun h => kt ((lN_le hx hy).mp ((lg_cmp_le _ _).mp h))) (fun h => kf (Nat.lt_of_not_le (fun q => h ((lg_cmp_le _ _).mpr ((lN_le hx hy).mpr q))))))
theorem r_lclt (C : Cx p s m args meth c cc nL ret own D cI cZ A) {x y tgt : Nat} {off : Int} (hd1 : decode cc pc = .ok (.lcmp, 1)) (hd2 : decode cc (pc + 1) = .ok (.ifCond .lt off, 3)) (ht : ((pc + 1 : Nat) : Int) + off = (tgt : Int)) (hx : x < 2 ^ 31) (hy : y < 2 ^ 31)
    (kt : x < y → W p l e R s m args below meth c H locs cells slots Q (F0 m tgt ls rest)) (kf : y ≤ x → W p l e R s m args below meth c H locs cells slots Q (F0 m (pc + 1 + 3) ls rest)) : W p l e R s m args below meth c H locs cells slots Q (F0 m pc ls (.long (lN y) :: .long (lN x) :: rest)) :=
  W.lcmp C.1 C.2.1 hd1 (lv_if_lt C.1 C.2.1 hd2 ht (fun h => kt ((lN_lt hx hy).mp ((lg_cmp_lt _ _).mp h))) (fun h => kf (Nat.le_of_not_lt (fun q => h ((lg_cmp_lt _ _).mpr ((lN_lt hx hy).mpr q))))))
theorem r_lcge (C : Cx p s m args meth c cc nL ret own D cI cZ A) {x y tgt : Nat} {off : Int} (hd1 : decode cc pc = .ok (.lcmp, 1)) (hd2 : decode cc (pc + 1) = .ok (.ifCond .ge off, 3)) (ht : ((pc + 1 : Nat) : Int) + off = (tgt : Int)) (hx : x < 2 ^ 31) (hy : y < 2 ^ 31)
    (kt : y ≤ x → W p l e R s m args below meth c H locs cells slots Q (F0 m tgt ls rest)) (kf : x < y → W p l e R s m args below meth c H locs cells slots Q (F0 m (pc + 1 + 3) ls rest)) : W p l e R s m args below meth c H locs cells slots Q (F0 m pc ls (.long (lN y) :: .long (lN x) :: rest)) :=
  W.lcmp C.1 C.2.1 hd1 (lv_if_ge C.1 C.2.1 hd2 ht (fun h => kt ((lN_le hy hx).mp ((lg_cmp_ge _ _).mp h))) (fun h => kf (Nat.lt_of_not_le (fun q => h ((lg_cmp_ge _ _).mpr ((lN_le hy hx).mpr q))))))
theorem Wd.reArr {a n : Nat} {cA : ClassId} {f g : Nat → Int32} {H0 : Heap} (Z : Wd D A H0 ws H locs) (q0 : Nat) (he : ws[q0]? = some (a, .inl (cA, n, .inl f))) (hfg : ∀ j, j < n → f j = g j) (hw : ws.set q0 (a, .inl (cA, n, .inl g)) = ws') : Wd D A H0 ws' H locs := by
  subst hw
  refine ⟨Z.1.set Z.2.1 he ?_ (fun _ _ => rfl), Z.2.1.set he, Z.2.2⟩
  have h := Z.1 q0 _ he
  show H[a]? = some (vp_cell cA (n, .inl g))
  have h2 : H[a]? = some (vp_cell cA (n, .inl f)) := h
  rw [h2, vp_cell_i, vp_cell_i]
  unfold arrV
  congr 2
  congr 1
  funext j
  show Value.int (f j.val) = Value.int (g j.val)
  rw [hfg j.val j.isLt]
end ROWS
