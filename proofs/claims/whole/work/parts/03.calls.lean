/-! CALLS: a callee's cells are cut out of the world, come back, and the world stands in its order again. -/
theorem fm_of {α β : Type} {f : α → Option β} {is : List α} {w : List β} (h : is.map f = w.map some) : is.filterMap f = w := by
  have h1 : (is.map f).filterMap id = is.filterMap f := by rw [List.filterMap_map]; rfl
  rw [← h1, h, List.filterMap_map]
  simp
def plainY (y : MethodName) (n : Nat) : Prop := y.cls ≠ "java/lang/invoke/MethodHandle" ∧ y.cls ≠ "java/lang/invoke/VarHandle" ∧ (parseMethodDescriptor y.desc).map (fun d => d.parameters.length) = some n
/-- a call by a class's own (or a public) link: virtual, static, a constructor; of a nest mate -/
def Kv (own : String) (index : Nat) (y : MethodName) (cc : ByteArray) (nL : Nat) (ret : Option FieldType) (n : Nat) : Prop := Cond.methodLink own index y ∈ gw ∧ Cond.instanceMethod y ∈ gw ∧ Cond.selects y.cls y y ∈ gw ∧ Cond.initialized y.cls ∈ gw ∧ Cond.code y cc nL ret ∈ gw ∧ plainY y n
def Kn (own : String) (index : Nat) (y : MethodName) (cc : ByteArray) (nL : Nat) (ret : Option FieldType) (n : Nat) : Prop := (∃ host, Cond.methodLinkNest own index y host ∈ nw) ∧ Cond.instanceMethod y ∈ gw ∧ Cond.selects y.cls y y ∈ gw ∧ Cond.initialized y.cls ∈ gw ∧ Cond.code y cc nL ret ∈ gw ∧ plainY y n
def Ks (own : String) (index : Nat) (y : MethodName) (cc : ByteArray) (nL : Nat) (ret : Option FieldType) (n : Nat) : Prop := Cond.methodLink own index y ∈ gw ∧ Cond.static y ∈ gw ∧ Cond.initialized y.cls ∈ gw ∧ Cond.code y cc nL ret ∈ gw ∧ plainY y n
def Ki (own : String) (index : Nat) (y : MethodName) (cc : ByteArray) (nL n : Nat) : Prop := Cond.methodLink own index y ∈ gw ∧ Cond.instanceMethod y ∈ gw ∧ Cond.initialized y.cls ∈ gw ∧ Cond.code y cc nL none ∈ gw ∧ plainY y n ∧ y.name = "<init>"
def Kj (own : String) (index : Nat) (y : MethodName) (cc : ByteArray) (nL n : Nat) : Prop := (∃ host, Cond.methodLinkNest own index y host ∈ nw) ∧ Cond.instanceMethod y ∈ gw ∧ Cond.initialized y.cls ∈ gw ∧ Cond.code y cc nL none ∈ gw ∧ plainY y n ∧ y.name = "<init>"
section CALLS
variable {p : Program} {l : Launch} {e : Env} {R : Room} {s : State} {m : MethodId} {args : Array Value} {below : List Frame} {meth : Method} {c : Code} {H : Heap} {locs : List Loc} {cells slots : Nat} {Q : State → Prop}
variable {cc : ByteArray} {pc nL : Nat} {ret : Option FieldType} {own : String} {ls : Array Slot} {rest st0 : List Value} {D : va_G} {cI cZ : ClassId} {A : Nat → Prop} {ws wc wr : va_W}
variable {S : Type} {y : MethodName} {cc' : ByteArray} {nL' n index mc ms : Nat} {ret' : Option FieldType} {rm' : Room} {b : Nat} {As : List Value} {wo wn : S → va_W}
/-- behind a call: the int's -/
theorem r_backi {post : Int32 → S → Prop} {a : Array Value} (C : Cx p s m args meth c cc nL ret own D cI cZ A) (Z : Wd D A s.heap ws H locs) (isC isR isN : List Nat) (hC : isC.map (fun i => ws[i]?) = wc.map some) (hRr : isR.map (fun i => ws[i]?) = wr.map some) (hnd : va_nd isR = true) (hdis : ∀ i ∈ isR, i ∉ isC) (hndN : va_nd isN = true) (hN : ∀ u, isN.map (fun i => (wr ++ wo u)[i]?) = (wn u).map some)
    (hr : va_Run p l e R s m args below meth c H locs cells slots 0 0 (F0 m pc ls st0) rest (va_Qi post (BS D wo (va_A wc H.size)) (va_A wc H.size) a) (va_A wc H.size))
    (kk : ∀ (r : Int32) (u : S) (H1 : Heap) (locs1 : List Loc), post r u → Wd D A s.heap (wn u) H1 locs1 → W p l e R s m args below meth c H1 locs1 cells slots Q (F0 m (pc + 3) ls (.int r :: rest))) : W p l e R s m args below meth c H locs cells slots Q (F0 m pc ls st0) := by
  have hFc := va_free (wc := wc) Z.2.1 Z.2.2 C.2.2.2.2.2.2.2.2 isC hC
  refine va_calli hr Z.2.2 (fun q _ h => hFc q h) hFc (fun r u t H1 locs1 ht hvm hw hB hz1 hk1 hS => ?_)
  obtain ⟨hP1, hD1⟩ := hB
  rw [ht] at hP1
  obtain ⟨hPj, hDj⟩ := va_join Z.1 Z.2.1 isC isR hC hRr hnd hdis hk1 hFc hP1 hD1
  exact kk r u H1 locs1 hw ⟨hPj.sub isN (fm_of (hN u)), hDj.sub isN hndN (hN u), hS⟩
theorem r_backv {post : S → Prop} {a : Array Value} (C : Cx p s m args meth c cc nL ret own D cI cZ A) (Z : Wd D A s.heap ws H locs) (isC isR isN : List Nat) (hC : isC.map (fun i => ws[i]?) = wc.map some) (hRr : isR.map (fun i => ws[i]?) = wr.map some) (hnd : va_nd isR = true) (hdis : ∀ i ∈ isR, i ∉ isC) (hndN : va_nd isN = true) (hN : ∀ u, isN.map (fun i => (wr ++ wo u)[i]?) = (wn u).map some)
    (hr : va_Run p l e R s m args below meth c H locs cells slots mc ms (F0 m pc ls st0) rest (va_Qv post (BS D wo (va_A wc H.size)) (va_A wc H.size) a) (va_A wc H.size))
    (kk : ∀ (u : S) (H1 : Heap) (locs1 : List Loc), post u → Wd D A s.heap (wn u) H1 locs1 → W p l e R s m args below meth c H1 locs1 (cells + mc) (slots + ms) Q (F0 m (pc + 3) ls rest)) : W p l e R s m args below meth c H locs cells slots Q (F0 m pc ls st0) := by
  have hFc := va_free (wc := wc) Z.2.1 Z.2.2 C.2.2.2.2.2.2.2.2 isC hC
  refine va_callv hr Z.2.2 (fun q _ h => hFc q h) hFc (fun u t H1 locs1 ht hvm hw hB hz1 hk1 hS => ?_)
  obtain ⟨hP1, hD1⟩ := hB
  rw [ht] at hP1
  obtain ⟨hPj, hDj⟩ := va_join Z.1 Z.2.1 isC isR hC hRr hnd hdis hk1 hFc hP1 hD1
  exact kk u H1 locs1 hw ⟨hPj.sub isN (fm_of (hN u)), hDj.sub isN hndN (hN u), hS⟩
/-- what a callee's start wants -/
theorem prex (C : Cx p s m args meth c cc nL ret own D cI cZ A) (Z : Wd D A s.heap ws H locs) (isC : List Nat) (hndC : va_nd isC = true) (hC : isC.map (fun i => ws[i]?) = wc.map some) (av : List Value) : PreS s H (PcS D cI cZ av wc H.size) av := by
  have hPc := Z.1.sub isC (fm_of hC)
  have hDc := Z.2.1.sub isC hndC hC
  exact ⟨PcS.blind, fun U hU hW => ⟨rfl, by rw [hU], by rw [hU]; exact hPc, C.2.2.2.2.2.2.2.1.warm hW, hDc.weaken (fun _ _ _ _ => trivial)⟩⟩
theorem rcvx (C : Cx p s m args meth c cc nL ret own D cI cZ A) (Z : Wd D A s.heap ws H locs) (q1 : Nat) {ci : Nat} {fs : List Value} {T : u_T} {N : Nat} {Cn : String} (he : ws[q1]? = some (b, .inr (ci, fs))) (hcl : classes[ci]? = some (Cn, T, N)) : ∃ cellB : Cell, H[b]? = some cellB ∧ cellB.vm.isStatics = false ∧ s.vm.findClass Cn = some cellB.cls := va_recv C.2.2.2.2.2.2.2.1.1 Z.1 hcl he
theorem r_callVi {post : Int32 → S → Prop} (C : Cx p s m args meth c cc nL ret own D cI cZ A) (Z : Wd D A s.heap ws H locs) (hM : Mi l y cc' nL' ret' rm' D cI cZ (.ref b :: As) wc post wo) (K : Kv own index y cc' nL' ret' n) (hn : As.length = n) (hR : rm'.frames + 1 ≤ R.frames ∧ 8 + (nL' + 11) + rm'.locals ≤ R.locals) (hc0 : rm'.cells = 0 ∧ rm'.slots = 0)
    (isC isR isN : List Nat) (hndC : va_nd isC = true) (hC : isC.map (fun i => ws[i]?) = wc.map some) (hRr : isR.map (fun i => ws[i]?) = wr.map some) (hnd : va_nd isR = true) (hdis : ∀ i ∈ isR, i ∉ isC) (hndN : va_nd isN = true) (hN : ∀ u, isN.map (fun i => (wr ++ wo u)[i]?) = (wn u).map some)
    (q1 : Nat) {ci : Nat} {fs : List Value} {T : u_T} {N : Nat} (he : ws[q1]? = some (b, .inr (ci, fs))) (hcl : classes[ci]? = some (y.cls, T, N)) (hls : ls.size = nL) (hst : st0 = As.reverse ++ .ref b :: rest) (hrm : (rest.map fun v => v.category).sum ≤ 8) (hdg : decode cc pc = .ok (.invokevirtual index, 3)) (hcs : cells ≤ R.cells ∧ slots ≤ R.slots)
    (kk : ∀ (r : Int32) (u : S) (H1 : Heap) (locs1 : List Loc), post r u → Wd D A s.heap (wn u) H1 locs1 → W p l e R s m args below meth c H1 locs1 cells slots Q (F0 m (pc + 3) ls (.int r :: rest))) : W p l e R s m args below meth c H locs cells slots Q (F0 m pc ls st0) := by
  have hp := prex C Z isC hndC hC (.ref b :: As)
  have hv := rcvx C Z q1 he hcl
  obtain ⟨k1, k2, k3, k4, k5, k6⟩ := K
  have hts := C.2.2.2.2.2.2.1
  exact r_backi C Z isC isR isN hC hRr hnd hdis hndN hN (va_runV (As := As) (rest := rest) (n := n) (C := y.cls) ⟨C.1, C.2.1, C.2.2.1, C.2.2.2.2.2.1, hts⟩ (hM H.size) ⟨callB_of n hts (gi_gw (fun _ h => h) k5) rfl hc0.1 hc0.2 (hts _ k4) (hts _ k1) k6 hR, hts _ k2, hts _ k3⟩ ⟨hp.1, hv, hp.2⟩ rfl hn hls hst (lv_room hrm) hdg hcs) kk
theorem r_callNi {post : Int32 → S → Prop} (C : Cx p s m args meth c cc nL ret own D cI cZ A) (Z : Wd D A s.heap ws H locs) (hM : Mi l y cc' nL' ret' rm' D cI cZ (.ref b :: As) wc post wo) (K : Kn own index y cc' nL' ret' n) (hn : As.length = n) (hR : rm'.frames + 1 ≤ R.frames ∧ 8 + (nL' + 11) + rm'.locals ≤ R.locals) (hc0 : rm'.cells = 0 ∧ rm'.slots = 0)
    (isC isR isN : List Nat) (hndC : va_nd isC = true) (hC : isC.map (fun i => ws[i]?) = wc.map some) (hRr : isR.map (fun i => ws[i]?) = wr.map some) (hnd : va_nd isR = true) (hdis : ∀ i ∈ isR, i ∉ isC) (hndN : va_nd isN = true) (hN : ∀ u, isN.map (fun i => (wr ++ wo u)[i]?) = (wn u).map some)
    (q1 : Nat) {ci : Nat} {fs : List Value} {T : u_T} {N : Nat} (he : ws[q1]? = some (b, .inr (ci, fs))) (hcl : classes[ci]? = some (y.cls, T, N)) (hls : ls.size = nL) (hst : st0 = As.reverse ++ .ref b :: rest) (hrm : (rest.map fun v => v.category).sum ≤ 8) (hdg : decode cc pc = .ok (.invokevirtual index, 3)) (hcs : cells ≤ R.cells ∧ slots ≤ R.slots)
    (kk : ∀ (r : Int32) (u : S) (H1 : Heap) (locs1 : List Loc), post r u → Wd D A s.heap (wn u) H1 locs1 → W p l e R s m args below meth c H1 locs1 cells slots Q (F0 m (pc + 3) ls (.int r :: rest))) : W p l e R s m args below meth c H locs cells slots Q (F0 m pc ls st0) := by
  have hp := prex C Z isC hndC hC (.ref b :: As)
  have hv := rcvx C Z q1 he hcl
  obtain ⟨⟨host, k1⟩, k2, k3, k4, k5, k6⟩ := K
  have hts := C.2.2.2.2.2.2.1
  have hK := C.2.2.2.2.2.2.2.1
  exact r_backi C Z isC isR isN hC hRr hnd hdis hndN hN (va_runVN (As := As) (rest := rest) (n := n) (C := y.cls) ⟨C.1, C.2.1, C.2.2.1, C.2.2.2.2.2.1, hts⟩ (hM H.size) ⟨va_cnB n hts (gi_gw (fun _ h => h) k5) rfl hc0.1 hc0.2 (hK.2 _ k1) (hts _ k4) k6 hR, hts _ k2, hts _ k3⟩ ⟨hp.1, hv, hp.2⟩ rfl hn hls hst (lv_room hrm) hdg hcs) kk
theorem r_callSi {post : Int32 → S → Prop} (C : Cx p s m args meth c cc nL ret own D cI cZ A) (Z : Wd D A s.heap ws H locs) (hM : Mi l y cc' nL' ret' rm' D cI cZ As wc post wo) (K : Ks own index y cc' nL' ret' n) (hn : As.length = n) (hR : rm'.frames + 1 ≤ R.frames ∧ 8 + (nL' + 11) + rm'.locals ≤ R.locals) (hc0 : rm'.cells = 0 ∧ rm'.slots = 0)
    (isC isR isN : List Nat) (hndC : va_nd isC = true) (hC : isC.map (fun i => ws[i]?) = wc.map some) (hRr : isR.map (fun i => ws[i]?) = wr.map some) (hnd : va_nd isR = true) (hdis : ∀ i ∈ isR, i ∉ isC) (hndN : va_nd isN = true) (hN : ∀ u, isN.map (fun i => (wr ++ wo u)[i]?) = (wn u).map some)
    (hls : ls.size = nL) (hst : st0 = As.reverse ++ rest) (hrm : (rest.map fun v => v.category).sum ≤ 8) (hdg : decode cc pc = .ok (.invokestatic index, 3)) (hcs : cells ≤ R.cells ∧ slots ≤ R.slots)
    (kk : ∀ (r : Int32) (u : S) (H1 : Heap) (locs1 : List Loc), post r u → Wd D A s.heap (wn u) H1 locs1 → W p l e R s m args below meth c H1 locs1 cells slots Q (F0 m (pc + 3) ls (.int r :: rest))) : W p l e R s m args below meth c H locs cells slots Q (F0 m pc ls st0) := by
  have hp := prex C Z isC hndC hC As
  obtain ⟨k1, k2, k4, k5, k6⟩ := K
  have hts := C.2.2.2.2.2.2.1
  exact r_backi C Z isC isR isN hC hRr hnd hdis hndN hN (va_runS (As := As) (rest := rest) (n := n) ⟨C.1, C.2.1, C.2.2.1, C.2.2.2.2.2.1, hts⟩ (hM H.size) ⟨callB_of n hts (gi_gw (fun _ h => h) k5) rfl hc0.1 hc0.2 (hts _ k4) (hts _ k1) k6 hR, hts _ k2⟩ hp rfl hn hls hst (lv_room hrm) hdg hcs) kk
theorem r_callVv {post : S → Prop} (C : Cx p s m args meth c cc nL ret own D cI cZ A) (Z : Wd D A s.heap ws H locs) (hM : Mv l y cc' nL' rm' D cI cZ (.ref b :: As) wc post wo 0 0) (K : Kv own index y cc' nL' none n) (hn : As.length = n) (hR : rm'.frames + 1 ≤ R.frames ∧ 8 + (nL' + 11) + rm'.locals ≤ R.locals) (hc0 : rm'.cells = 0 ∧ rm'.slots = 0)
    (isC isR isN : List Nat) (hndC : va_nd isC = true) (hC : isC.map (fun i => ws[i]?) = wc.map some) (hRr : isR.map (fun i => ws[i]?) = wr.map some) (hnd : va_nd isR = true) (hdis : ∀ i ∈ isR, i ∉ isC) (hndN : va_nd isN = true) (hN : ∀ u, isN.map (fun i => (wr ++ wo u)[i]?) = (wn u).map some)
    (q1 : Nat) {ci : Nat} {fs : List Value} {T : u_T} {N : Nat} (he : ws[q1]? = some (b, .inr (ci, fs))) (hcl : classes[ci]? = some (y.cls, T, N)) (hls : ls.size = nL) (hst : st0 = As.reverse ++ .ref b :: rest) (hrm : (rest.map fun v => v.category).sum ≤ 8) (hdg : decode cc pc = .ok (.invokevirtual index, 3)) (hcs : cells ≤ R.cells ∧ slots ≤ R.slots)
    (kk : ∀ (u : S) (H1 : Heap) (locs1 : List Loc), post u → Wd D A s.heap (wn u) H1 locs1 → W p l e R s m args below meth c H1 locs1 cells slots Q (F0 m (pc + 3) ls rest)) : W p l e R s m args below meth c H locs cells slots Q (F0 m pc ls st0) := by
  have hp := prex C Z isC hndC hC (.ref b :: As)
  have hv := rcvx C Z q1 he hcl
  obtain ⟨k1, k2, k3, k4, k5, k6⟩ := K
  have hts := C.2.2.2.2.2.2.1
  exact r_backv C Z isC isR isN hC hRr hnd hdis hndN hN (va_runV (As := As) (rest := rest) (n := n) (C := y.cls) ⟨C.1, C.2.1, C.2.2.1, C.2.2.2.2.2.1, hts⟩ (hM H.size) ⟨callB_of n hts (gi_gw (fun _ h => h) k5) rfl hc0.1 hc0.2 (hts _ k4) (hts _ k1) k6 hR, hts _ k2, hts _ k3⟩ ⟨hp.1, hv, hp.2⟩ rfl hn hls hst (lv_room hrm) hdg hcs) kk
theorem r_callNv {post : S → Prop} (C : Cx p s m args meth c cc nL ret own D cI cZ A) (Z : Wd D A s.heap ws H locs) (hM : Mv l y cc' nL' rm' D cI cZ (.ref b :: As) wc post wo 0 0) (K : Kn own index y cc' nL' none n) (hn : As.length = n) (hR : rm'.frames + 1 ≤ R.frames ∧ 8 + (nL' + 11) + rm'.locals ≤ R.locals) (hc0 : rm'.cells = 0 ∧ rm'.slots = 0)
    (isC isR isN : List Nat) (hndC : va_nd isC = true) (hC : isC.map (fun i => ws[i]?) = wc.map some) (hRr : isR.map (fun i => ws[i]?) = wr.map some) (hnd : va_nd isR = true) (hdis : ∀ i ∈ isR, i ∉ isC) (hndN : va_nd isN = true) (hN : ∀ u, isN.map (fun i => (wr ++ wo u)[i]?) = (wn u).map some)
    (q1 : Nat) {ci : Nat} {fs : List Value} {T : u_T} {N : Nat} (he : ws[q1]? = some (b, .inr (ci, fs))) (hcl : classes[ci]? = some (y.cls, T, N)) (hls : ls.size = nL) (hst : st0 = As.reverse ++ .ref b :: rest) (hrm : (rest.map fun v => v.category).sum ≤ 8) (hdg : decode cc pc = .ok (.invokevirtual index, 3)) (hcs : cells ≤ R.cells ∧ slots ≤ R.slots)
    (kk : ∀ (u : S) (H1 : Heap) (locs1 : List Loc), post u → Wd D A s.heap (wn u) H1 locs1 → W p l e R s m args below meth c H1 locs1 cells slots Q (F0 m (pc + 3) ls rest)) : W p l e R s m args below meth c H locs cells slots Q (F0 m pc ls st0) := by
  have hp := prex C Z isC hndC hC (.ref b :: As)
  have hv := rcvx C Z q1 he hcl
  obtain ⟨⟨host, k1⟩, k2, k3, k4, k5, k6⟩ := K
  have hts := C.2.2.2.2.2.2.1
  have hK := C.2.2.2.2.2.2.2.1
  exact r_backv C Z isC isR isN hC hRr hnd hdis hndN hN (va_runVN (As := As) (rest := rest) (n := n) (C := y.cls) ⟨C.1, C.2.1, C.2.2.1, C.2.2.2.2.2.1, hts⟩ (hM H.size) ⟨va_cnB n hts (gi_gw (fun _ h => h) k5) rfl hc0.1 hc0.2 (hK.2 _ k1) (hts _ k4) k6 hR, hts _ k2, hts _ k3⟩ ⟨hp.1, hv, hp.2⟩ rfl hn hls hst (lv_room hrm) hdg hcs) kk
end CALLS
