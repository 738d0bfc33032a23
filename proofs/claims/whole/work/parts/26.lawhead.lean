/-! THE CLAIM OUT OF ONE WALK OF THE LAW'S BODY. Your part is whole_start (and what it stands on); all else here is the same for every law, but numbers. -/
def R_law : String := "EntityDeskLaw"
def lw_P (b : Addr) (xs : List Int32) (args : Array Value) (s : State) : Prop := args = #[.ref b] ∧ s.IntsAt b xs ∧ xs.length ≤ 2048 ∧ (Jvm.Cond.and given_1 narrow_1).before args s = true
def lw_Q (_ : Array Value) (s : State) (o : Outcome) (t : State) : Prop := o = .returned (some (.int 1)) ∧ Framed s o t [] 600000 7302250
def lw_Z (below : List Frame) (a : Array Value) (s : State) : State → Prop := fun t => ∃ o, t.status = .running ∧ Ended t below o ∧ lw_Q a s o t
/-- the law's own end, with 1 on the stack, nothing written that was there before, its room as the claim has it -/
theorem lw_ret {p : Program} {l : Launch} {e : Env} {s : State} {m : MethodId} {below : List Frame} {meth : Method} {c : Code} {b : Nat} (hx : p.tables.exec = Jvm.exec) (hb : c.code = code) (hr : meth.sig.returnType = ret) (hlocks : meth.locks = false) {pc : Nat} {H : Heap} {ls : Array Slot} (hdg : decode code pc = .ok (.ireturn, 1)) : W p l e room_1 s m #[Value.ref b] below meth c H [] 600000 7302250 (lw_Z below #[Value.ref b] s) (F0 m pc ls [.int 1]) := by
  intro T hT X
  obtain ⟨fs, hret, hrun, hended, hW, hframe⟩ := X.leave (v := some (.int 1)) (hlocks := hlocks) (fun h => by rw [hr] at h; cases h)
  have hmeth' : T.vm.method? m = some meth := X.method'
  refine ⟨T.setFrames fs, ?_, .returned (some (.int 1)), hrun, hended, rfl, ⟨_, rfl⟩, hW, hframe⟩
  jvm_step X.here [X.here.top, hx, hb, hdg, hmeth', hr, ret, narrow_b1]
  (try refine ⟨rfl, ?_⟩); (try refine ⟨rfl, ?_⟩)
  first | (intro acts; rw [hret _ acts rfl rfl rfl]) | rw [hret _ _ rfl rfl rfl]
  exact Steps.refl _
/-- what holds at the law's entry: the machine, the code, the tables' words (any of lw_tbl by 'hts w (by decide +kernel)'), the script of L ints xs at the cell b, what the Statement gives of the start (any of its parts by flat_of_before) -/
def lw_At (p : Program) (s : State) (m : MethodId) (meth : Method) (c : Code) (b L : Nat) (xs : Nat → Int32) : Prop :=
  p.tables.exec = Jvm.exec ∧ c.code = code ∧ meth.sig.returnType = ret ∧ c.maxLocals = 4 ∧ s.vm.findClass R_law = some m.cls ∧ (∀ w ∈ lw_tbl, w.before #[Value.ref b] s = true) ∧ va_X b L xs s s.heap ∧ b < s.heap.size ∧ meth.locks = false ∧ (Jvm.Cond.and given_1 narrow_1).before #[Value.ref b] s = true
theorem d_Law_0 : decode code 0 = .ok (.new 7, 3) := by decide +kernel
theorem d_Law_3 : decode code 3 = .ok (.dup, 1) := by decide +kernel
theorem d_Law_4 : decode code 4 = .ok (.invokespecial 9, 3) := by decide +kernel
theorem d_Law_7 : decode code 7 = .ok (.astore_n 1, 1) := by decide +kernel
theorem d_Law_8 : decode code 8 = .ok (.new 10, 3) := by decide +kernel
theorem d_Law_11 : decode code 11 = .ok (.dup, 1) := by decide +kernel
theorem d_Law_12 : decode code 12 = .ok (.invokespecial 12, 3) := by decide +kernel
theorem d_Law_15 : decode code 15 = .ok (.astore_n 2, 1) := by decide +kernel
theorem d_Law_16 : decode code 16 = .ok (.iconst 0, 1) := by decide +kernel
theorem d_Law_17 : decode code 17 = .ok (.istore_n 3, 1) := by decide +kernel
theorem d_Law_18 : decode code 18 = .ok (.iload_n 3, 1) := by decide +kernel
theorem d_Law_19 : decode code 19 = .ok (.aload_n 0, 1) := by decide +kernel
theorem d_Law_20 : decode code 20 = .ok (.arraylength, 1) := by decide +kernel
theorem d_Law_21 : decode code 21 = .ok (.iconst 4, 1) := by decide +kernel
theorem d_Law_22 : decode code 22 = .ok (.isub, 1) := by decide +kernel
theorem d_Law_23 : decode code 23 = .ok (.if_icmp .gt 260, 3) := by decide +kernel
theorem d_Law_26 : decode code 26 = .ok (.aload_n 0, 1) := by decide +kernel
theorem d_Law_27 : decode code 27 = .ok (.iload_n 3, 1) := by decide +kernel
theorem d_Law_28 : decode code 28 = .ok (.iaload, 1) := by decide +kernel
theorem d_Law_29 : decode code 29 = .ok (.bipush 7, 2) := by decide +kernel
theorem d_Law_31 : decode code 31 = .ok (.iand, 1) := by decide +kernel
theorem d_Law_32 : decode code 32 = .ok (.tableswitch 245 0 6 #[44, 107, 130, 153, 166, 189, 222], 44) := by decide +kernel
theorem d_Law_76 : decode code 76 = .ok (.aload_n 1, 1) := by decide +kernel
theorem d_Law_77 : decode code 77 = .ok (.aload_n 0, 1) := by decide +kernel
theorem d_Law_78 : decode code 78 = .ok (.iload_n 3, 1) := by decide +kernel
theorem d_Law_79 : decode code 79 = .ok (.iconst 1, 1) := by decide +kernel
theorem d_Law_80 : decode code 80 = .ok (.iadd, 1) := by decide +kernel
theorem d_Law_81 : decode code 81 = .ok (.iaload, 1) := by decide +kernel
theorem d_Law_82 : decode code 82 = .ok (.i2l, 1) := by decide +kernel
theorem d_Law_83 : decode code 83 = .ok (.bipush 32, 2) := by decide +kernel
theorem d_Law_85 : decode code 85 = .ok (.lshl, 1) := by decide +kernel
theorem d_Law_86 : decode code 86 = .ok (.aload_n 0, 1) := by decide +kernel
theorem d_Law_87 : decode code 87 = .ok (.iload_n 3, 1) := by decide +kernel
theorem d_Law_88 : decode code 88 = .ok (.iconst 2, 1) := by decide +kernel
theorem d_Law_89 : decode code 89 = .ok (.iadd, 1) := by decide +kernel
theorem d_Law_90 : decode code 90 = .ok (.iaload, 1) := by decide +kernel
theorem d_Law_91 : decode code 91 = .ok (.i2l, 1) := by decide +kernel
theorem d_Law_92 : decode code 92 = .ok (.ldc2_w 13, 3) := by decide +kernel
theorem d_Law_95 : decode code 95 = .ok (.land, 1) := by decide +kernel
theorem d_Law_96 : decode code 96 = .ok (.lor, 1) := by decide +kernel
theorem d_Law_97 : decode code 97 = .ok (.aload_n 0, 1) := by decide +kernel
theorem d_Law_98 : decode code 98 = .ok (.iload_n 3, 1) := by decide +kernel
theorem d_Law_99 : decode code 99 = .ok (.iconst 3, 1) := by decide +kernel
theorem d_Law_100 : decode code 100 = .ok (.iadd, 1) := by decide +kernel
theorem d_Law_101 : decode code 101 = .ok (.iaload, 1) := by decide +kernel
theorem d_Law_102 : decode code 102 = .ok (.invokevirtual 15, 3) := by decide +kernel
theorem d_Law_105 : decode code 105 = .ok (.aload_n 2, 1) := by decide +kernel
theorem d_Law_106 : decode code 106 = .ok (.aload_n 0, 1) := by decide +kernel
theorem d_Law_107 : decode code 107 = .ok (.iload_n 3, 1) := by decide +kernel
theorem d_Law_108 : decode code 108 = .ok (.iconst 1, 1) := by decide +kernel
theorem d_Law_109 : decode code 109 = .ok (.iadd, 1) := by decide +kernel
theorem d_Law_110 : decode code 110 = .ok (.iaload, 1) := by decide +kernel
theorem d_Law_111 : decode code 111 = .ok (.i2l, 1) := by decide +kernel
theorem d_Law_112 : decode code 112 = .ok (.bipush 32, 2) := by decide +kernel
theorem d_Law_114 : decode code 114 = .ok (.lshl, 1) := by decide +kernel
theorem d_Law_115 : decode code 115 = .ok (.aload_n 0, 1) := by decide +kernel
theorem d_Law_116 : decode code 116 = .ok (.iload_n 3, 1) := by decide +kernel
theorem d_Law_117 : decode code 117 = .ok (.iconst 2, 1) := by decide +kernel
theorem d_Law_118 : decode code 118 = .ok (.iadd, 1) := by decide +kernel
theorem d_Law_119 : decode code 119 = .ok (.iaload, 1) := by decide +kernel
theorem d_Law_120 : decode code 120 = .ok (.i2l, 1) := by decide +kernel
theorem d_Law_121 : decode code 121 = .ok (.ldc2_w 13, 3) := by decide +kernel
theorem d_Law_124 : decode code 124 = .ok (.land, 1) := by decide +kernel
theorem d_Law_125 : decode code 125 = .ok (.lor, 1) := by decide +kernel
theorem d_Law_126 : decode code 126 = .ok (.aload_n 0, 1) := by decide +kernel
theorem d_Law_127 : decode code 127 = .ok (.iload_n 3, 1) := by decide +kernel
theorem d_Law_128 : decode code 128 = .ok (.iconst 3, 1) := by decide +kernel
theorem d_Law_129 : decode code 129 = .ok (.iadd, 1) := by decide +kernel
theorem d_Law_130 : decode code 130 = .ok (.iaload, 1) := by decide +kernel
theorem d_Law_131 : decode code 131 = .ok (.invokevirtual 19, 3) := by decide +kernel
theorem d_Law_134 : decode code 134 = .ok (.if_icmp .eq 143, 3) := by decide +kernel
theorem d_Law_137 : decode code 137 = .ok (.iconst 0, 1) := by decide +kernel
theorem d_Law_138 : decode code 138 = .ok (.ireturn, 1) := by decide +kernel
theorem d_Law_139 : decode code 139 = .ok (.aload_n 1, 1) := by decide +kernel
theorem d_Law_140 : decode code 140 = .ok (.aload_n 0, 1) := by decide +kernel
theorem d_Law_141 : decode code 141 = .ok (.iload_n 3, 1) := by decide +kernel
theorem d_Law_142 : decode code 142 = .ok (.iconst 1, 1) := by decide +kernel
theorem d_Law_143 : decode code 143 = .ok (.iadd, 1) := by decide +kernel
theorem d_Law_144 : decode code 144 = .ok (.iaload, 1) := by decide +kernel
theorem d_Law_145 : decode code 145 = .ok (.invokevirtual 20, 3) := by decide +kernel
theorem d_Law_148 : decode code 148 = .ok (.aload_n 2, 1) := by decide +kernel
theorem d_Law_149 : decode code 149 = .ok (.aload_n 0, 1) := by decide +kernel
theorem d_Law_150 : decode code 150 = .ok (.iload_n 3, 1) := by decide +kernel
theorem d_Law_151 : decode code 151 = .ok (.iconst 1, 1) := by decide +kernel
theorem d_Law_152 : decode code 152 = .ok (.iadd, 1) := by decide +kernel
theorem d_Law_153 : decode code 153 = .ok (.iaload, 1) := by decide +kernel
theorem d_Law_154 : decode code 154 = .ok (.invokevirtual 24, 3) := by decide +kernel
theorem d_Law_157 : decode code 157 = .ok (.if_icmp .eq 120, 3) := by decide +kernel
theorem d_Law_160 : decode code 160 = .ok (.iconst 0, 1) := by decide +kernel
theorem d_Law_161 : decode code 161 = .ok (.ireturn, 1) := by decide +kernel
theorem d_Law_162 : decode code 162 = .ok (.aload_n 1, 1) := by decide +kernel
theorem d_Law_163 : decode code 163 = .ok (.aload_n 0, 1) := by decide +kernel
theorem d_Law_164 : decode code 164 = .ok (.iload_n 3, 1) := by decide +kernel
theorem d_Law_165 : decode code 165 = .ok (.iconst 1, 1) := by decide +kernel
theorem d_Law_166 : decode code 166 = .ok (.iadd, 1) := by decide +kernel
theorem d_Law_167 : decode code 167 = .ok (.iaload, 1) := by decide +kernel
theorem d_Law_168 : decode code 168 = .ok (.invokevirtual 25, 3) := by decide +kernel
theorem d_Law_171 : decode code 171 = .ok (.aload_n 2, 1) := by decide +kernel
theorem d_Law_172 : decode code 172 = .ok (.aload_n 0, 1) := by decide +kernel
theorem d_Law_173 : decode code 173 = .ok (.iload_n 3, 1) := by decide +kernel
theorem d_Law_174 : decode code 174 = .ok (.iconst 1, 1) := by decide +kernel
theorem d_Law_175 : decode code 175 = .ok (.iadd, 1) := by decide +kernel
theorem d_Law_176 : decode code 176 = .ok (.iaload, 1) := by decide +kernel
theorem d_Law_177 : decode code 177 = .ok (.invokevirtual 28, 3) := by decide +kernel
theorem d_Law_180 : decode code 180 = .ok (.if_icmp .eq 97, 3) := by decide +kernel
theorem d_Law_183 : decode code 183 = .ok (.iconst 0, 1) := by decide +kernel
theorem d_Law_184 : decode code 184 = .ok (.ireturn, 1) := by decide +kernel
theorem d_Law_185 : decode code 185 = .ok (.aload_n 1, 1) := by decide +kernel
theorem d_Law_186 : decode code 186 = .ok (.invokevirtual 29, 3) := by decide +kernel
theorem d_Law_189 : decode code 189 = .ok (.aload_n 2, 1) := by decide +kernel
theorem d_Law_190 : decode code 190 = .ok (.invokevirtual 33, 3) := by decide +kernel
theorem d_Law_193 : decode code 193 = .ok (.if_icmp .eq 84, 3) := by decide +kernel
theorem d_Law_196 : decode code 196 = .ok (.iconst 0, 1) := by decide +kernel
theorem d_Law_197 : decode code 197 = .ok (.ireturn, 1) := by decide +kernel
theorem d_Law_198 : decode code 198 = .ok (.aload_n 1, 1) := by decide +kernel
theorem d_Law_199 : decode code 199 = .ok (.aload_n 0, 1) := by decide +kernel
theorem d_Law_200 : decode code 200 = .ok (.iload_n 3, 1) := by decide +kernel
theorem d_Law_201 : decode code 201 = .ok (.iconst 1, 1) := by decide +kernel
theorem d_Law_202 : decode code 202 = .ok (.iadd, 1) := by decide +kernel
theorem d_Law_203 : decode code 203 = .ok (.iaload, 1) := by decide +kernel
theorem d_Law_204 : decode code 204 = .ok (.invokevirtual 34, 3) := by decide +kernel
theorem d_Law_207 : decode code 207 = .ok (.aload_n 2, 1) := by decide +kernel
theorem d_Law_208 : decode code 208 = .ok (.aload_n 0, 1) := by decide +kernel
theorem d_Law_209 : decode code 209 = .ok (.iload_n 3, 1) := by decide +kernel
theorem d_Law_210 : decode code 210 = .ok (.iconst 1, 1) := by decide +kernel
theorem d_Law_211 : decode code 211 = .ok (.iadd, 1) := by decide +kernel
theorem d_Law_212 : decode code 212 = .ok (.iaload, 1) := by decide +kernel
theorem d_Law_213 : decode code 213 = .ok (.invokevirtual 37, 3) := by decide +kernel
theorem d_Law_216 : decode code 216 = .ok (.if_icmp .eq 61, 3) := by decide +kernel
theorem d_Law_219 : decode code 219 = .ok (.iconst 0, 1) := by decide +kernel
theorem d_Law_220 : decode code 220 = .ok (.ireturn, 1) := by decide +kernel
theorem d_Law_221 : decode code 221 = .ok (.aload_n 1, 1) := by decide +kernel
theorem d_Law_222 : decode code 222 = .ok (.aload_n 0, 1) := by decide +kernel
theorem d_Law_223 : decode code 223 = .ok (.iload_n 3, 1) := by decide +kernel
theorem d_Law_224 : decode code 224 = .ok (.iconst 1, 1) := by decide +kernel
theorem d_Law_225 : decode code 225 = .ok (.iadd, 1) := by decide +kernel
theorem d_Law_226 : decode code 226 = .ok (.iaload, 1) := by decide +kernel
theorem d_Law_227 : decode code 227 = .ok (.aload_n 0, 1) := by decide +kernel
theorem d_Law_228 : decode code 228 = .ok (.iload_n 3, 1) := by decide +kernel
theorem d_Law_229 : decode code 229 = .ok (.iconst 2, 1) := by decide +kernel
theorem d_Law_230 : decode code 230 = .ok (.iadd, 1) := by decide +kernel
theorem d_Law_231 : decode code 231 = .ok (.iaload, 1) := by decide +kernel
theorem d_Law_232 : decode code 232 = .ok (.invokevirtual 38, 3) := by decide +kernel
theorem d_Law_235 : decode code 235 = .ok (.aload_n 2, 1) := by decide +kernel
theorem d_Law_236 : decode code 236 = .ok (.aload_n 0, 1) := by decide +kernel
theorem d_Law_237 : decode code 237 = .ok (.iload_n 3, 1) := by decide +kernel
theorem d_Law_238 : decode code 238 = .ok (.iconst 1, 1) := by decide +kernel
theorem d_Law_239 : decode code 239 = .ok (.iadd, 1) := by decide +kernel
theorem d_Law_240 : decode code 240 = .ok (.iaload, 1) := by decide +kernel
theorem d_Law_241 : decode code 241 = .ok (.aload_n 0, 1) := by decide +kernel
theorem d_Law_242 : decode code 242 = .ok (.iload_n 3, 1) := by decide +kernel
theorem d_Law_243 : decode code 243 = .ok (.iconst 2, 1) := by decide +kernel
theorem d_Law_244 : decode code 244 = .ok (.iadd, 1) := by decide +kernel
theorem d_Law_245 : decode code 245 = .ok (.iaload, 1) := by decide +kernel
theorem d_Law_246 : decode code 246 = .ok (.invokevirtual 42, 3) := by decide +kernel
theorem d_Law_249 : decode code 249 = .ok (.if_icmp .eq 28, 3) := by decide +kernel
theorem d_Law_252 : decode code 252 = .ok (.iconst 0, 1) := by decide +kernel
theorem d_Law_253 : decode code 253 = .ok (.ireturn, 1) := by decide +kernel
theorem d_Law_254 : decode code 254 = .ok (.aload_n 1, 1) := by decide +kernel
theorem d_Law_255 : decode code 255 = .ok (.aload_n 0, 1) := by decide +kernel
theorem d_Law_256 : decode code 256 = .ok (.iload_n 3, 1) := by decide +kernel
theorem d_Law_257 : decode code 257 = .ok (.iconst 1, 1) := by decide +kernel
theorem d_Law_258 : decode code 258 = .ok (.iadd, 1) := by decide +kernel
theorem d_Law_259 : decode code 259 = .ok (.iaload, 1) := by decide +kernel
theorem d_Law_260 : decode code 260 = .ok (.invokevirtual 43, 3) := by decide +kernel
theorem d_Law_263 : decode code 263 = .ok (.aload_n 2, 1) := by decide +kernel
theorem d_Law_264 : decode code 264 = .ok (.aload_n 0, 1) := by decide +kernel
theorem d_Law_265 : decode code 265 = .ok (.iload_n 3, 1) := by decide +kernel
theorem d_Law_266 : decode code 266 = .ok (.iconst 1, 1) := by decide +kernel
theorem d_Law_267 : decode code 267 = .ok (.iadd, 1) := by decide +kernel
theorem d_Law_268 : decode code 268 = .ok (.iaload, 1) := by decide +kernel
theorem d_Law_269 : decode code 269 = .ok (.invokevirtual 46, 3) := by decide +kernel
theorem d_Law_272 : decode code 272 = .ok (.if_icmp .eq 5, 3) := by decide +kernel
theorem d_Law_275 : decode code 275 = .ok (.iconst 0, 1) := by decide +kernel
theorem d_Law_276 : decode code 276 = .ok (.ireturn, 1) := by decide +kernel
theorem d_Law_277 : decode code 277 = .ok (.iinc 3 4, 3) := by decide +kernel
theorem d_Law_280 : decode code 280 = .ok (.goto (-262), 3) := by decide +kernel
theorem d_Law_283 : decode code 283 = .ok (.iconst 1, 1) := by decide +kernel
theorem d_Law_284 : decode code 284 = .ok (.ireturn, 1) := by decide +kernel
theorem r_inc4 (x : Nat) : nI x + Int32.ofInt 4 = nI (x + 4) := nI_add x 4
