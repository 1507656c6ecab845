/-! THE CLAIM OUT OF ONE WALK OF THE LAW'S BODY. Your part is whole_start (and what it stands on); all else here is the same for every law, but numbers. -/
def R_law : String := "BoundChainsLaw"
def lw_P (b : Addr) (xs : List Int32) (args : Array Value) (s : State) : Prop := args = #[.ref b] ∧ s.IntsAt b xs ∧ xs.length ≤ 2560 ∧ (Jvm.Cond.and given_1 narrow_1).before args s = true
def lw_Q (_ : Array Value) (s : State) (o : Outcome) (t : State) : Prop := o = .returned (some (.int 1)) ∧ Framed s o t [] 600000 7302250
def lw_Z (below : List Frame) (a : Array Value) (s : State) : State → Prop := fun t => ∃ o, t.status = .running ∧ Ended t below o ∧ lw_Q a s o t
/-- the law's own end, with 1 on the stack, nothing written that was there before, its room as the claim has it -/
theorem lw_ret {p : Program} {l : Launch} {e : Env} {s : State} {m : MethodId} {below : List Frame} {meth : Method} {c : Code} {b : Nat} (hx : p.tables.exec = Jvm.exec) (hb : c.code = code) (hr : meth.sig.returnType = ret) (hlocks : meth.locks = false) {pc : Nat} {H : Heap} {ls : Array Slot} (hdg : decode code pc = .ok (.ireturn, 1)) : W p l e room_1 s m #[Value.ref b] below meth c H [] 600000 7302250 (lw_Z below #[Value.ref b] s) (F0 m pc ls [.int 1]) := by
  intro T hT X
  obtain ⟨fs, hret, hrun, hended, hW, hframe⟩ := X.leave (v := some (.int 1)) (hlocks := hlocks) (fun h => by rw [hr] at h; cases h)
  have hmeth' : T.vm.method? m = some meth := X.method'
  refine ⟨T.setFrames fs, ?_, .returned (some (.int 1)), hrun, hended, rfl, ⟨_, rfl⟩, hW, hframe⟩
  jvm_step X.here [X.here.top, hx, hb, hdg, hmeth', hr, ret, narrow_b1]
  (try refine ⟨rfl, ?_⟩); (try refine ⟨rfl, ?_⟩)
  first | (intro acts; rw [hret _ acts rfl rfl rfl]) | rw [hret _ _ rfl rfl rfl]
  exact Steps.refl _
/-- what holds at the law's entry: the machine, the code, the tables' words (any of lw_tbl by 'hts w (by decide +kernel)'), the script of L ints xs at the cell b, what the Statement gives of the start (any of its parts by flat_of_before) -/
def lw_At (p : Program) (s : State) (m : MethodId) (meth : Method) (c : Code) (b L : Nat) (xs : Nat → Int32) : Prop :=
  p.tables.exec = Jvm.exec ∧ c.code = code ∧ meth.sig.returnType = ret ∧ c.maxLocals = 4 ∧ s.vm.findClass R_law = some m.cls ∧ (∀ w ∈ lw_tbl, w.before #[Value.ref b] s = true) ∧ va_X b L xs s s.heap ∧ b < s.heap.size ∧ meth.locks = false ∧ (Jvm.Cond.and given_1 narrow_1).before #[Value.ref b] s = true

theorem d_L_law_0 : decode code 0 = .ok (.new 7, 3) := by decide +kernel
theorem d_L_law_3 : decode code 3 = .ok (.dup, 1) := by decide +kernel
theorem d_L_law_4 : decode code 4 = .ok (.invokespecial 9, 3) := by decide +kernel
theorem d_L_law_7 : decode code 7 = .ok (.astore_n 1, 1) := by decide +kernel
theorem d_L_law_8 : decode code 8 = .ok (.new 10, 3) := by decide +kernel
theorem d_L_law_11 : decode code 11 = .ok (.dup, 1) := by decide +kernel
theorem d_L_law_12 : decode code 12 = .ok (.invokespecial 12, 3) := by decide +kernel
theorem d_L_law_15 : decode code 15 = .ok (.astore_n 2, 1) := by decide +kernel
theorem d_L_law_16 : decode code 16 = .ok (.iconst 0, 1) := by decide +kernel
theorem d_L_law_17 : decode code 17 = .ok (.istore_n 3, 1) := by decide +kernel
theorem d_L_law_18 : decode code 18 = .ok (.iload_n 3, 1) := by decide +kernel
theorem d_L_law_19 : decode code 19 = .ok (.aload_n 0, 1) := by decide +kernel
theorem d_L_law_20 : decode code 20 = .ok (.arraylength, 1) := by decide +kernel
theorem d_L_law_21 : decode code 21 = .ok (.iconst 5, 1) := by decide +kernel
theorem d_L_law_22 : decode code 22 = .ok (.isub, 1) := by decide +kernel
theorem d_L_law_23 : decode code 23 = .ok (.if_icmp .gt 674, 3) := by decide +kernel
theorem d_L_law_26 : decode code 26 = .ok (.aload_n 0, 1) := by decide +kernel
theorem d_L_law_27 : decode code 27 = .ok (.iload_n 3, 1) := by decide +kernel
theorem d_L_law_28 : decode code 28 = .ok (.iaload, 1) := by decide +kernel
theorem d_L_law_29 : decode code 29 = .ok (.bipush 31, 2) := by decide +kernel
theorem d_L_law_31 : decode code 31 = .ok (.iand, 1) := by decide +kernel
theorem d_L_law_32 : decode code 32 = .ok (.tableswitch 659 0 16 #[84, 95, 134, 177, 220, 273, 296, 339, 392, 435, 478, 491, 524, 567, 610, 623, 636], 84) := by decide +kernel
theorem d_L_law_116 : decode code 116 = .ok (.aload_n 1, 1) := by decide +kernel
theorem d_L_law_117 : decode code 117 = .ok (.invokevirtual 13, 3) := by decide +kernel
theorem d_L_law_120 : decode code 120 = .ok (.aload_n 2, 1) := by decide +kernel
theorem d_L_law_121 : decode code 121 = .ok (.invokevirtual 16, 3) := by decide +kernel
theorem d_L_law_124 : decode code 124 = .ok (.goto 567, 3) := by decide +kernel
theorem d_L_law_127 : decode code 127 = .ok (.aload_n 1, 1) := by decide +kernel
theorem d_L_law_128 : decode code 128 = .ok (.aload_n 0, 1) := by decide +kernel
theorem d_L_law_129 : decode code 129 = .ok (.iload_n 3, 1) := by decide +kernel
theorem d_L_law_130 : decode code 130 = .ok (.iconst 1, 1) := by decide +kernel
theorem d_L_law_131 : decode code 131 = .ok (.iadd, 1) := by decide +kernel
theorem d_L_law_132 : decode code 132 = .ok (.iaload, 1) := by decide +kernel
theorem d_L_law_133 : decode code 133 = .ok (.ifCond .eq 7, 3) := by decide +kernel
theorem d_L_law_136 : decode code 136 = .ok (.iconst 1, 1) := by decide +kernel
theorem d_L_law_137 : decode code 137 = .ok (.goto 4, 3) := by decide +kernel
theorem d_L_law_140 : decode code 140 = .ok (.iconst 0, 1) := by decide +kernel
theorem d_L_law_141 : decode code 141 = .ok (.invokevirtual 17, 3) := by decide +kernel
theorem d_L_law_144 : decode code 144 = .ok (.aload_n 2, 1) := by decide +kernel
theorem d_L_law_145 : decode code 145 = .ok (.aload_n 0, 1) := by decide +kernel
theorem d_L_law_146 : decode code 146 = .ok (.iload_n 3, 1) := by decide +kernel
theorem d_L_law_147 : decode code 147 = .ok (.iconst 1, 1) := by decide +kernel
theorem d_L_law_148 : decode code 148 = .ok (.iadd, 1) := by decide +kernel
theorem d_L_law_149 : decode code 149 = .ok (.iaload, 1) := by decide +kernel
theorem d_L_law_150 : decode code 150 = .ok (.ifCond .eq 7, 3) := by decide +kernel
theorem d_L_law_153 : decode code 153 = .ok (.iconst 1, 1) := by decide +kernel
theorem d_L_law_154 : decode code 154 = .ok (.goto 4, 3) := by decide +kernel
theorem d_L_law_157 : decode code 157 = .ok (.iconst 0, 1) := by decide +kernel
theorem d_L_law_158 : decode code 158 = .ok (.invokevirtual 21, 3) := by decide +kernel
theorem d_L_law_161 : decode code 161 = .ok (.if_icmp .eq 530, 3) := by decide +kernel
theorem d_L_law_164 : decode code 164 = .ok (.iconst 0, 1) := by decide +kernel
theorem d_L_law_165 : decode code 165 = .ok (.ireturn, 1) := by decide +kernel
theorem d_L_law_166 : decode code 166 = .ok (.aload_n 1, 1) := by decide +kernel
theorem d_L_law_167 : decode code 167 = .ok (.aload_n 0, 1) := by decide +kernel
theorem d_L_law_168 : decode code 168 = .ok (.iload_n 3, 1) := by decide +kernel
theorem d_L_law_169 : decode code 169 = .ok (.iconst 1, 1) := by decide +kernel
theorem d_L_law_170 : decode code 170 = .ok (.iadd, 1) := by decide +kernel
theorem d_L_law_171 : decode code 171 = .ok (.iaload, 1) := by decide +kernel
theorem d_L_law_172 : decode code 172 = .ok (.aload_n 0, 1) := by decide +kernel
theorem d_L_law_173 : decode code 173 = .ok (.iload_n 3, 1) := by decide +kernel
theorem d_L_law_174 : decode code 174 = .ok (.iconst 2, 1) := by decide +kernel
theorem d_L_law_175 : decode code 175 = .ok (.iadd, 1) := by decide +kernel
theorem d_L_law_176 : decode code 176 = .ok (.iaload, 1) := by decide +kernel
theorem d_L_law_177 : decode code 177 = .ok (.aload_n 0, 1) := by decide +kernel
theorem d_L_law_178 : decode code 178 = .ok (.iload_n 3, 1) := by decide +kernel
theorem d_L_law_179 : decode code 179 = .ok (.iconst 3, 1) := by decide +kernel
theorem d_L_law_180 : decode code 180 = .ok (.iadd, 1) := by decide +kernel
theorem d_L_law_181 : decode code 181 = .ok (.iaload, 1) := by decide +kernel
theorem d_L_law_182 : decode code 182 = .ok (.invokevirtual 22, 3) := by decide +kernel
theorem d_L_law_185 : decode code 185 = .ok (.aload_n 2, 1) := by decide +kernel
theorem d_L_law_186 : decode code 186 = .ok (.aload_n 0, 1) := by decide +kernel
theorem d_L_law_187 : decode code 187 = .ok (.iload_n 3, 1) := by decide +kernel
theorem d_L_law_188 : decode code 188 = .ok (.iconst 1, 1) := by decide +kernel
theorem d_L_law_189 : decode code 189 = .ok (.iadd, 1) := by decide +kernel
theorem d_L_law_190 : decode code 190 = .ok (.iaload, 1) := by decide +kernel
theorem d_L_law_191 : decode code 191 = .ok (.aload_n 0, 1) := by decide +kernel
theorem d_L_law_192 : decode code 192 = .ok (.iload_n 3, 1) := by decide +kernel
theorem d_L_law_193 : decode code 193 = .ok (.iconst 2, 1) := by decide +kernel
theorem d_L_law_194 : decode code 194 = .ok (.iadd, 1) := by decide +kernel
theorem d_L_law_195 : decode code 195 = .ok (.iaload, 1) := by decide +kernel
theorem d_L_law_196 : decode code 196 = .ok (.aload_n 0, 1) := by decide +kernel
theorem d_L_law_197 : decode code 197 = .ok (.iload_n 3, 1) := by decide +kernel
theorem d_L_law_198 : decode code 198 = .ok (.iconst 3, 1) := by decide +kernel
theorem d_L_law_199 : decode code 199 = .ok (.iadd, 1) := by decide +kernel
theorem d_L_law_200 : decode code 200 = .ok (.iaload, 1) := by decide +kernel
theorem d_L_law_201 : decode code 201 = .ok (.invokevirtual 26, 3) := by decide +kernel
theorem d_L_law_204 : decode code 204 = .ok (.if_icmp .eq 487, 3) := by decide +kernel
theorem d_L_law_207 : decode code 207 = .ok (.iconst 0, 1) := by decide +kernel
theorem d_L_law_208 : decode code 208 = .ok (.ireturn, 1) := by decide +kernel
theorem d_L_law_209 : decode code 209 = .ok (.aload_n 1, 1) := by decide +kernel
theorem d_L_law_210 : decode code 210 = .ok (.aload_n 0, 1) := by decide +kernel
theorem d_L_law_211 : decode code 211 = .ok (.iload_n 3, 1) := by decide +kernel
theorem d_L_law_212 : decode code 212 = .ok (.iconst 1, 1) := by decide +kernel
theorem d_L_law_213 : decode code 213 = .ok (.iadd, 1) := by decide +kernel
theorem d_L_law_214 : decode code 214 = .ok (.iaload, 1) := by decide +kernel
theorem d_L_law_215 : decode code 215 = .ok (.aload_n 0, 1) := by decide +kernel
theorem d_L_law_216 : decode code 216 = .ok (.iload_n 3, 1) := by decide +kernel
theorem d_L_law_217 : decode code 217 = .ok (.iconst 2, 1) := by decide +kernel
theorem d_L_law_218 : decode code 218 = .ok (.iadd, 1) := by decide +kernel
theorem d_L_law_219 : decode code 219 = .ok (.iaload, 1) := by decide +kernel
theorem d_L_law_220 : decode code 220 = .ok (.aload_n 0, 1) := by decide +kernel
theorem d_L_law_221 : decode code 221 = .ok (.iload_n 3, 1) := by decide +kernel
theorem d_L_law_222 : decode code 222 = .ok (.iconst 3, 1) := by decide +kernel
theorem d_L_law_223 : decode code 223 = .ok (.iadd, 1) := by decide +kernel
theorem d_L_law_224 : decode code 224 = .ok (.iaload, 1) := by decide +kernel
theorem d_L_law_225 : decode code 225 = .ok (.invokevirtual 27, 3) := by decide +kernel
theorem d_L_law_228 : decode code 228 = .ok (.aload_n 2, 1) := by decide +kernel
theorem d_L_law_229 : decode code 229 = .ok (.aload_n 0, 1) := by decide +kernel
theorem d_L_law_230 : decode code 230 = .ok (.iload_n 3, 1) := by decide +kernel
theorem d_L_law_231 : decode code 231 = .ok (.iconst 1, 1) := by decide +kernel
theorem d_L_law_232 : decode code 232 = .ok (.iadd, 1) := by decide +kernel
theorem d_L_law_233 : decode code 233 = .ok (.iaload, 1) := by decide +kernel
theorem d_L_law_234 : decode code 234 = .ok (.aload_n 0, 1) := by decide +kernel
theorem d_L_law_235 : decode code 235 = .ok (.iload_n 3, 1) := by decide +kernel
theorem d_L_law_236 : decode code 236 = .ok (.iconst 2, 1) := by decide +kernel
theorem d_L_law_237 : decode code 237 = .ok (.iadd, 1) := by decide +kernel
theorem d_L_law_238 : decode code 238 = .ok (.iaload, 1) := by decide +kernel
theorem d_L_law_239 : decode code 239 = .ok (.aload_n 0, 1) := by decide +kernel
theorem d_L_law_240 : decode code 240 = .ok (.iload_n 3, 1) := by decide +kernel
theorem d_L_law_241 : decode code 241 = .ok (.iconst 3, 1) := by decide +kernel
theorem d_L_law_242 : decode code 242 = .ok (.iadd, 1) := by decide +kernel
theorem d_L_law_243 : decode code 243 = .ok (.iaload, 1) := by decide +kernel
theorem d_L_law_244 : decode code 244 = .ok (.invokevirtual 30, 3) := by decide +kernel
theorem d_L_law_247 : decode code 247 = .ok (.if_icmp .eq 444, 3) := by decide +kernel
theorem d_L_law_250 : decode code 250 = .ok (.iconst 0, 1) := by decide +kernel
theorem d_L_law_251 : decode code 251 = .ok (.ireturn, 1) := by decide +kernel
theorem d_L_law_252 : decode code 252 = .ok (.aload_n 1, 1) := by decide +kernel
theorem d_L_law_253 : decode code 253 = .ok (.aload_n 0, 1) := by decide +kernel
theorem d_L_law_254 : decode code 254 = .ok (.iload_n 3, 1) := by decide +kernel
theorem d_L_law_255 : decode code 255 = .ok (.iconst 1, 1) := by decide +kernel
theorem d_L_law_256 : decode code 256 = .ok (.iadd, 1) := by decide +kernel
theorem d_L_law_257 : decode code 257 = .ok (.iaload, 1) := by decide +kernel
theorem d_L_law_258 : decode code 258 = .ok (.aload_n 0, 1) := by decide +kernel
theorem d_L_law_259 : decode code 259 = .ok (.iload_n 3, 1) := by decide +kernel
theorem d_L_law_260 : decode code 260 = .ok (.iconst 2, 1) := by decide +kernel
theorem d_L_law_261 : decode code 261 = .ok (.iadd, 1) := by decide +kernel
theorem d_L_law_262 : decode code 262 = .ok (.iaload, 1) := by decide +kernel
theorem d_L_law_263 : decode code 263 = .ok (.aload_n 0, 1) := by decide +kernel
theorem d_L_law_264 : decode code 264 = .ok (.iload_n 3, 1) := by decide +kernel
theorem d_L_law_265 : decode code 265 = .ok (.iconst 3, 1) := by decide +kernel
theorem d_L_law_266 : decode code 266 = .ok (.iadd, 1) := by decide +kernel
theorem d_L_law_267 : decode code 267 = .ok (.iaload, 1) := by decide +kernel
theorem d_L_law_268 : decode code 268 = .ok (.aload_n 0, 1) := by decide +kernel
theorem d_L_law_269 : decode code 269 = .ok (.iload_n 3, 1) := by decide +kernel
theorem d_L_law_270 : decode code 270 = .ok (.iconst 4, 1) := by decide +kernel
theorem d_L_law_271 : decode code 271 = .ok (.iadd, 1) := by decide +kernel
theorem d_L_law_272 : decode code 272 = .ok (.iaload, 1) := by decide +kernel
theorem d_L_law_273 : decode code 273 = .ok (.invokevirtual 31, 3) := by decide +kernel
theorem d_L_law_276 : decode code 276 = .ok (.aload_n 2, 1) := by decide +kernel
theorem d_L_law_277 : decode code 277 = .ok (.aload_n 0, 1) := by decide +kernel
theorem d_L_law_278 : decode code 278 = .ok (.iload_n 3, 1) := by decide +kernel
theorem d_L_law_279 : decode code 279 = .ok (.iconst 1, 1) := by decide +kernel
theorem d_L_law_280 : decode code 280 = .ok (.iadd, 1) := by decide +kernel
theorem d_L_law_281 : decode code 281 = .ok (.iaload, 1) := by decide +kernel
theorem d_L_law_282 : decode code 282 = .ok (.aload_n 0, 1) := by decide +kernel
theorem d_L_law_283 : decode code 283 = .ok (.iload_n 3, 1) := by decide +kernel
theorem d_L_law_284 : decode code 284 = .ok (.iconst 2, 1) := by decide +kernel
theorem d_L_law_285 : decode code 285 = .ok (.iadd, 1) := by decide +kernel
theorem d_L_law_286 : decode code 286 = .ok (.iaload, 1) := by decide +kernel
theorem d_L_law_287 : decode code 287 = .ok (.aload_n 0, 1) := by decide +kernel
theorem d_L_law_288 : decode code 288 = .ok (.iload_n 3, 1) := by decide +kernel
theorem d_L_law_289 : decode code 289 = .ok (.iconst 3, 1) := by decide +kernel
theorem d_L_law_290 : decode code 290 = .ok (.iadd, 1) := by decide +kernel
theorem d_L_law_291 : decode code 291 = .ok (.iaload, 1) := by decide +kernel
theorem d_L_law_292 : decode code 292 = .ok (.aload_n 0, 1) := by decide +kernel
theorem d_L_law_293 : decode code 293 = .ok (.iload_n 3, 1) := by decide +kernel
theorem d_L_law_294 : decode code 294 = .ok (.iconst 4, 1) := by decide +kernel
theorem d_L_law_295 : decode code 295 = .ok (.iadd, 1) := by decide +kernel
theorem d_L_law_296 : decode code 296 = .ok (.iaload, 1) := by decide +kernel
theorem d_L_law_297 : decode code 297 = .ok (.invokevirtual 35, 3) := by decide +kernel
theorem d_L_law_300 : decode code 300 = .ok (.if_icmp .eq 391, 3) := by decide +kernel
theorem d_L_law_303 : decode code 303 = .ok (.iconst 0, 1) := by decide +kernel
theorem d_L_law_304 : decode code 304 = .ok (.ireturn, 1) := by decide +kernel
theorem d_L_law_305 : decode code 305 = .ok (.aload_n 1, 1) := by decide +kernel
theorem d_L_law_306 : decode code 306 = .ok (.aload_n 0, 1) := by decide +kernel
theorem d_L_law_307 : decode code 307 = .ok (.iload_n 3, 1) := by decide +kernel
theorem d_L_law_308 : decode code 308 = .ok (.iconst 1, 1) := by decide +kernel
theorem d_L_law_309 : decode code 309 = .ok (.iadd, 1) := by decide +kernel
theorem d_L_law_310 : decode code 310 = .ok (.iaload, 1) := by decide +kernel
theorem d_L_law_311 : decode code 311 = .ok (.invokevirtual 36, 3) := by decide +kernel
theorem d_L_law_314 : decode code 314 = .ok (.aload_n 2, 1) := by decide +kernel
theorem d_L_law_315 : decode code 315 = .ok (.aload_n 0, 1) := by decide +kernel
theorem d_L_law_316 : decode code 316 = .ok (.iload_n 3, 1) := by decide +kernel
theorem d_L_law_317 : decode code 317 = .ok (.iconst 1, 1) := by decide +kernel
theorem d_L_law_318 : decode code 318 = .ok (.iadd, 1) := by decide +kernel
theorem d_L_law_319 : decode code 319 = .ok (.iaload, 1) := by decide +kernel
theorem d_L_law_320 : decode code 320 = .ok (.invokevirtual 40, 3) := by decide +kernel
theorem d_L_law_323 : decode code 323 = .ok (.if_icmp .eq 368, 3) := by decide +kernel
theorem d_L_law_326 : decode code 326 = .ok (.iconst 0, 1) := by decide +kernel
theorem d_L_law_327 : decode code 327 = .ok (.ireturn, 1) := by decide +kernel
theorem d_L_law_328 : decode code 328 = .ok (.aload_n 1, 1) := by decide +kernel
theorem d_L_law_329 : decode code 329 = .ok (.aload_n 0, 1) := by decide +kernel
theorem d_L_law_330 : decode code 330 = .ok (.iload_n 3, 1) := by decide +kernel
theorem d_L_law_331 : decode code 331 = .ok (.iconst 1, 1) := by decide +kernel
theorem d_L_law_332 : decode code 332 = .ok (.iadd, 1) := by decide +kernel
theorem d_L_law_333 : decode code 333 = .ok (.iaload, 1) := by decide +kernel
theorem d_L_law_334 : decode code 334 = .ok (.aload_n 0, 1) := by decide +kernel
theorem d_L_law_335 : decode code 335 = .ok (.iload_n 3, 1) := by decide +kernel
theorem d_L_law_336 : decode code 336 = .ok (.iconst 2, 1) := by decide +kernel
theorem d_L_law_337 : decode code 337 = .ok (.iadd, 1) := by decide +kernel
theorem d_L_law_338 : decode code 338 = .ok (.iaload, 1) := by decide +kernel
theorem d_L_law_339 : decode code 339 = .ok (.aload_n 0, 1) := by decide +kernel
theorem d_L_law_340 : decode code 340 = .ok (.iload_n 3, 1) := by decide +kernel
theorem d_L_law_341 : decode code 341 = .ok (.iconst 3, 1) := by decide +kernel
theorem d_L_law_342 : decode code 342 = .ok (.iadd, 1) := by decide +kernel
theorem d_L_law_343 : decode code 343 = .ok (.iaload, 1) := by decide +kernel
theorem d_L_law_344 : decode code 344 = .ok (.invokevirtual 41, 3) := by decide +kernel
theorem d_L_law_347 : decode code 347 = .ok (.aload_n 2, 1) := by decide +kernel
theorem d_L_law_348 : decode code 348 = .ok (.aload_n 0, 1) := by decide +kernel
theorem d_L_law_349 : decode code 349 = .ok (.iload_n 3, 1) := by decide +kernel
theorem d_L_law_350 : decode code 350 = .ok (.iconst 1, 1) := by decide +kernel
theorem d_L_law_351 : decode code 351 = .ok (.iadd, 1) := by decide +kernel
theorem d_L_law_352 : decode code 352 = .ok (.iaload, 1) := by decide +kernel
theorem d_L_law_353 : decode code 353 = .ok (.aload_n 0, 1) := by decide +kernel
theorem d_L_law_354 : decode code 354 = .ok (.iload_n 3, 1) := by decide +kernel
theorem d_L_law_355 : decode code 355 = .ok (.iconst 2, 1) := by decide +kernel
theorem d_L_law_356 : decode code 356 = .ok (.iadd, 1) := by decide +kernel
theorem d_L_law_357 : decode code 357 = .ok (.iaload, 1) := by decide +kernel
theorem d_L_law_358 : decode code 358 = .ok (.aload_n 0, 1) := by decide +kernel
theorem d_L_law_359 : decode code 359 = .ok (.iload_n 3, 1) := by decide +kernel
theorem d_L_law_360 : decode code 360 = .ok (.iconst 3, 1) := by decide +kernel
theorem d_L_law_361 : decode code 361 = .ok (.iadd, 1) := by decide +kernel
theorem d_L_law_362 : decode code 362 = .ok (.iaload, 1) := by decide +kernel
theorem d_L_law_363 : decode code 363 = .ok (.invokevirtual 44, 3) := by decide +kernel
theorem d_L_law_366 : decode code 366 = .ok (.if_icmp .eq 325, 3) := by decide +kernel
theorem d_L_law_369 : decode code 369 = .ok (.iconst 0, 1) := by decide +kernel
theorem d_L_law_370 : decode code 370 = .ok (.ireturn, 1) := by decide +kernel
theorem d_L_law_371 : decode code 371 = .ok (.aload_n 1, 1) := by decide +kernel
theorem d_L_law_372 : decode code 372 = .ok (.aload_n 0, 1) := by decide +kernel
theorem d_L_law_373 : decode code 373 = .ok (.iload_n 3, 1) := by decide +kernel
theorem d_L_law_374 : decode code 374 = .ok (.iconst 1, 1) := by decide +kernel
theorem d_L_law_375 : decode code 375 = .ok (.iadd, 1) := by decide +kernel
theorem d_L_law_376 : decode code 376 = .ok (.iaload, 1) := by decide +kernel
theorem d_L_law_377 : decode code 377 = .ok (.aload_n 0, 1) := by decide +kernel
theorem d_L_law_378 : decode code 378 = .ok (.iload_n 3, 1) := by decide +kernel
theorem d_L_law_379 : decode code 379 = .ok (.iconst 2, 1) := by decide +kernel
theorem d_L_law_380 : decode code 380 = .ok (.iadd, 1) := by decide +kernel
theorem d_L_law_381 : decode code 381 = .ok (.iaload, 1) := by decide +kernel
theorem d_L_law_382 : decode code 382 = .ok (.aload_n 0, 1) := by decide +kernel
theorem d_L_law_383 : decode code 383 = .ok (.iload_n 3, 1) := by decide +kernel
theorem d_L_law_384 : decode code 384 = .ok (.iconst 3, 1) := by decide +kernel
theorem d_L_law_385 : decode code 385 = .ok (.iadd, 1) := by decide +kernel
theorem d_L_law_386 : decode code 386 = .ok (.iaload, 1) := by decide +kernel
theorem d_L_law_387 : decode code 387 = .ok (.aload_n 0, 1) := by decide +kernel
theorem d_L_law_388 : decode code 388 = .ok (.iload_n 3, 1) := by decide +kernel
theorem d_L_law_389 : decode code 389 = .ok (.iconst 4, 1) := by decide +kernel
theorem d_L_law_390 : decode code 390 = .ok (.iadd, 1) := by decide +kernel
theorem d_L_law_391 : decode code 391 = .ok (.iaload, 1) := by decide +kernel
theorem d_L_law_392 : decode code 392 = .ok (.invokevirtual 45, 3) := by decide +kernel
theorem d_L_law_395 : decode code 395 = .ok (.aload_n 2, 1) := by decide +kernel
theorem d_L_law_396 : decode code 396 = .ok (.aload_n 0, 1) := by decide +kernel
theorem d_L_law_397 : decode code 397 = .ok (.iload_n 3, 1) := by decide +kernel
theorem d_L_law_398 : decode code 398 = .ok (.iconst 1, 1) := by decide +kernel
theorem d_L_law_399 : decode code 399 = .ok (.iadd, 1) := by decide +kernel
theorem d_L_law_400 : decode code 400 = .ok (.iaload, 1) := by decide +kernel
theorem d_L_law_401 : decode code 401 = .ok (.aload_n 0, 1) := by decide +kernel
theorem d_L_law_402 : decode code 402 = .ok (.iload_n 3, 1) := by decide +kernel
theorem d_L_law_403 : decode code 403 = .ok (.iconst 2, 1) := by decide +kernel
theorem d_L_law_404 : decode code 404 = .ok (.iadd, 1) := by decide +kernel
theorem d_L_law_405 : decode code 405 = .ok (.iaload, 1) := by decide +kernel
theorem d_L_law_406 : decode code 406 = .ok (.aload_n 0, 1) := by decide +kernel
theorem d_L_law_407 : decode code 407 = .ok (.iload_n 3, 1) := by decide +kernel
theorem d_L_law_408 : decode code 408 = .ok (.iconst 3, 1) := by decide +kernel
theorem d_L_law_409 : decode code 409 = .ok (.iadd, 1) := by decide +kernel
theorem d_L_law_410 : decode code 410 = .ok (.iaload, 1) := by decide +kernel
theorem d_L_law_411 : decode code 411 = .ok (.aload_n 0, 1) := by decide +kernel
theorem d_L_law_412 : decode code 412 = .ok (.iload_n 3, 1) := by decide +kernel
theorem d_L_law_413 : decode code 413 = .ok (.iconst 4, 1) := by decide +kernel
theorem d_L_law_414 : decode code 414 = .ok (.iadd, 1) := by decide +kernel
theorem d_L_law_415 : decode code 415 = .ok (.iaload, 1) := by decide +kernel
theorem d_L_law_416 : decode code 416 = .ok (.invokevirtual 48, 3) := by decide +kernel
theorem d_L_law_419 : decode code 419 = .ok (.if_icmp .eq 272, 3) := by decide +kernel
theorem d_L_law_422 : decode code 422 = .ok (.iconst 0, 1) := by decide +kernel
theorem d_L_law_423 : decode code 423 = .ok (.ireturn, 1) := by decide +kernel
theorem d_L_law_424 : decode code 424 = .ok (.aload_n 1, 1) := by decide +kernel
theorem d_L_law_425 : decode code 425 = .ok (.aload_n 0, 1) := by decide +kernel
theorem d_L_law_426 : decode code 426 = .ok (.iload_n 3, 1) := by decide +kernel
theorem d_L_law_427 : decode code 427 = .ok (.iconst 1, 1) := by decide +kernel
theorem d_L_law_428 : decode code 428 = .ok (.iadd, 1) := by decide +kernel
theorem d_L_law_429 : decode code 429 = .ok (.iaload, 1) := by decide +kernel
theorem d_L_law_430 : decode code 430 = .ok (.aload_n 0, 1) := by decide +kernel
theorem d_L_law_431 : decode code 431 = .ok (.iload_n 3, 1) := by decide +kernel
theorem d_L_law_432 : decode code 432 = .ok (.iconst 2, 1) := by decide +kernel
theorem d_L_law_433 : decode code 433 = .ok (.iadd, 1) := by decide +kernel
theorem d_L_law_434 : decode code 434 = .ok (.iaload, 1) := by decide +kernel
theorem d_L_law_435 : decode code 435 = .ok (.aload_n 0, 1) := by decide +kernel
theorem d_L_law_436 : decode code 436 = .ok (.iload_n 3, 1) := by decide +kernel
theorem d_L_law_437 : decode code 437 = .ok (.iconst 3, 1) := by decide +kernel
theorem d_L_law_438 : decode code 438 = .ok (.iadd, 1) := by decide +kernel
theorem d_L_law_439 : decode code 439 = .ok (.iaload, 1) := by decide +kernel
theorem d_L_law_440 : decode code 440 = .ok (.invokevirtual 49, 3) := by decide +kernel
theorem d_L_law_443 : decode code 443 = .ok (.aload_n 2, 1) := by decide +kernel
theorem d_L_law_444 : decode code 444 = .ok (.aload_n 0, 1) := by decide +kernel
theorem d_L_law_445 : decode code 445 = .ok (.iload_n 3, 1) := by decide +kernel
theorem d_L_law_446 : decode code 446 = .ok (.iconst 1, 1) := by decide +kernel
theorem d_L_law_447 : decode code 447 = .ok (.iadd, 1) := by decide +kernel
theorem d_L_law_448 : decode code 448 = .ok (.iaload, 1) := by decide +kernel
theorem d_L_law_449 : decode code 449 = .ok (.aload_n 0, 1) := by decide +kernel
theorem d_L_law_450 : decode code 450 = .ok (.iload_n 3, 1) := by decide +kernel
theorem d_L_law_451 : decode code 451 = .ok (.iconst 2, 1) := by decide +kernel
theorem d_L_law_452 : decode code 452 = .ok (.iadd, 1) := by decide +kernel
theorem d_L_law_453 : decode code 453 = .ok (.iaload, 1) := by decide +kernel
theorem d_L_law_454 : decode code 454 = .ok (.aload_n 0, 1) := by decide +kernel
theorem d_L_law_455 : decode code 455 = .ok (.iload_n 3, 1) := by decide +kernel
theorem d_L_law_456 : decode code 456 = .ok (.iconst 3, 1) := by decide +kernel
theorem d_L_law_457 : decode code 457 = .ok (.iadd, 1) := by decide +kernel
theorem d_L_law_458 : decode code 458 = .ok (.iaload, 1) := by decide +kernel
theorem d_L_law_459 : decode code 459 = .ok (.invokevirtual 52, 3) := by decide +kernel
theorem d_L_law_462 : decode code 462 = .ok (.if_icmp .eq 229, 3) := by decide +kernel
theorem d_L_law_465 : decode code 465 = .ok (.iconst 0, 1) := by decide +kernel
theorem d_L_law_466 : decode code 466 = .ok (.ireturn, 1) := by decide +kernel
theorem d_L_law_467 : decode code 467 = .ok (.aload_n 1, 1) := by decide +kernel
theorem d_L_law_468 : decode code 468 = .ok (.aload_n 0, 1) := by decide +kernel
theorem d_L_law_469 : decode code 469 = .ok (.iload_n 3, 1) := by decide +kernel
theorem d_L_law_470 : decode code 470 = .ok (.iconst 1, 1) := by decide +kernel
theorem d_L_law_471 : decode code 471 = .ok (.iadd, 1) := by decide +kernel
theorem d_L_law_472 : decode code 472 = .ok (.iaload, 1) := by decide +kernel
theorem d_L_law_473 : decode code 473 = .ok (.aload_n 0, 1) := by decide +kernel
theorem d_L_law_474 : decode code 474 = .ok (.iload_n 3, 1) := by decide +kernel
theorem d_L_law_475 : decode code 475 = .ok (.iconst 2, 1) := by decide +kernel
theorem d_L_law_476 : decode code 476 = .ok (.iadd, 1) := by decide +kernel
theorem d_L_law_477 : decode code 477 = .ok (.iaload, 1) := by decide +kernel
theorem d_L_law_478 : decode code 478 = .ok (.aload_n 0, 1) := by decide +kernel
theorem d_L_law_479 : decode code 479 = .ok (.iload_n 3, 1) := by decide +kernel
theorem d_L_law_480 : decode code 480 = .ok (.iconst 3, 1) := by decide +kernel
theorem d_L_law_481 : decode code 481 = .ok (.iadd, 1) := by decide +kernel
theorem d_L_law_482 : decode code 482 = .ok (.iaload, 1) := by decide +kernel
theorem d_L_law_483 : decode code 483 = .ok (.invokevirtual 53, 3) := by decide +kernel
theorem d_L_law_486 : decode code 486 = .ok (.aload_n 2, 1) := by decide +kernel
theorem d_L_law_487 : decode code 487 = .ok (.aload_n 0, 1) := by decide +kernel
theorem d_L_law_488 : decode code 488 = .ok (.iload_n 3, 1) := by decide +kernel
theorem d_L_law_489 : decode code 489 = .ok (.iconst 1, 1) := by decide +kernel
theorem d_L_law_490 : decode code 490 = .ok (.iadd, 1) := by decide +kernel
theorem d_L_law_491 : decode code 491 = .ok (.iaload, 1) := by decide +kernel
theorem d_L_law_492 : decode code 492 = .ok (.aload_n 0, 1) := by decide +kernel
theorem d_L_law_493 : decode code 493 = .ok (.iload_n 3, 1) := by decide +kernel
theorem d_L_law_494 : decode code 494 = .ok (.iconst 2, 1) := by decide +kernel
theorem d_L_law_495 : decode code 495 = .ok (.iadd, 1) := by decide +kernel
theorem d_L_law_496 : decode code 496 = .ok (.iaload, 1) := by decide +kernel
theorem d_L_law_497 : decode code 497 = .ok (.aload_n 0, 1) := by decide +kernel
theorem d_L_law_498 : decode code 498 = .ok (.iload_n 3, 1) := by decide +kernel
theorem d_L_law_499 : decode code 499 = .ok (.iconst 3, 1) := by decide +kernel
theorem d_L_law_500 : decode code 500 = .ok (.iadd, 1) := by decide +kernel
theorem d_L_law_501 : decode code 501 = .ok (.iaload, 1) := by decide +kernel
theorem d_L_law_502 : decode code 502 = .ok (.invokevirtual 56, 3) := by decide +kernel
theorem d_L_law_505 : decode code 505 = .ok (.if_icmp .eq 186, 3) := by decide +kernel
theorem d_L_law_508 : decode code 508 = .ok (.iconst 0, 1) := by decide +kernel
theorem d_L_law_509 : decode code 509 = .ok (.ireturn, 1) := by decide +kernel
theorem d_L_law_510 : decode code 510 = .ok (.aload_n 1, 1) := by decide +kernel
theorem d_L_law_511 : decode code 511 = .ok (.invokevirtual 57, 3) := by decide +kernel
theorem d_L_law_514 : decode code 514 = .ok (.aload_n 2, 1) := by decide +kernel
theorem d_L_law_515 : decode code 515 = .ok (.invokevirtual 61, 3) := by decide +kernel
theorem d_L_law_518 : decode code 518 = .ok (.if_icmp .eq 173, 3) := by decide +kernel
theorem d_L_law_521 : decode code 521 = .ok (.iconst 0, 1) := by decide +kernel
theorem d_L_law_522 : decode code 522 = .ok (.ireturn, 1) := by decide +kernel
theorem d_L_law_523 : decode code 523 = .ok (.aload_n 1, 1) := by decide +kernel
theorem d_L_law_524 : decode code 524 = .ok (.aload_n 0, 1) := by decide +kernel
theorem d_L_law_525 : decode code 525 = .ok (.iload_n 3, 1) := by decide +kernel
theorem d_L_law_526 : decode code 526 = .ok (.iconst 1, 1) := by decide +kernel
theorem d_L_law_527 : decode code 527 = .ok (.iadd, 1) := by decide +kernel
theorem d_L_law_528 : decode code 528 = .ok (.iaload, 1) := by decide +kernel
theorem d_L_law_529 : decode code 529 = .ok (.aload_n 0, 1) := by decide +kernel
theorem d_L_law_530 : decode code 530 = .ok (.iload_n 3, 1) := by decide +kernel
theorem d_L_law_531 : decode code 531 = .ok (.iconst 2, 1) := by decide +kernel
theorem d_L_law_532 : decode code 532 = .ok (.iadd, 1) := by decide +kernel
theorem d_L_law_533 : decode code 533 = .ok (.iaload, 1) := by decide +kernel
theorem d_L_law_534 : decode code 534 = .ok (.invokevirtual 62, 3) := by decide +kernel
theorem d_L_law_537 : decode code 537 = .ok (.aload_n 2, 1) := by decide +kernel
theorem d_L_law_538 : decode code 538 = .ok (.aload_n 0, 1) := by decide +kernel
theorem d_L_law_539 : decode code 539 = .ok (.iload_n 3, 1) := by decide +kernel
theorem d_L_law_540 : decode code 540 = .ok (.iconst 1, 1) := by decide +kernel
theorem d_L_law_541 : decode code 541 = .ok (.iadd, 1) := by decide +kernel
theorem d_L_law_542 : decode code 542 = .ok (.iaload, 1) := by decide +kernel
theorem d_L_law_543 : decode code 543 = .ok (.aload_n 0, 1) := by decide +kernel
theorem d_L_law_544 : decode code 544 = .ok (.iload_n 3, 1) := by decide +kernel
theorem d_L_law_545 : decode code 545 = .ok (.iconst 2, 1) := by decide +kernel
theorem d_L_law_546 : decode code 546 = .ok (.iadd, 1) := by decide +kernel
theorem d_L_law_547 : decode code 547 = .ok (.iaload, 1) := by decide +kernel
theorem d_L_law_548 : decode code 548 = .ok (.invokevirtual 66, 3) := by decide +kernel
theorem d_L_law_551 : decode code 551 = .ok (.if_icmp .eq 140, 3) := by decide +kernel
theorem d_L_law_554 : decode code 554 = .ok (.iconst 0, 1) := by decide +kernel
theorem d_L_law_555 : decode code 555 = .ok (.ireturn, 1) := by decide +kernel
theorem d_L_law_556 : decode code 556 = .ok (.aload_n 1, 1) := by decide +kernel
theorem d_L_law_557 : decode code 557 = .ok (.aload_n 0, 1) := by decide +kernel
theorem d_L_law_558 : decode code 558 = .ok (.iload_n 3, 1) := by decide +kernel
theorem d_L_law_559 : decode code 559 = .ok (.iconst 1, 1) := by decide +kernel
theorem d_L_law_560 : decode code 560 = .ok (.iadd, 1) := by decide +kernel
theorem d_L_law_561 : decode code 561 = .ok (.iaload, 1) := by decide +kernel
theorem d_L_law_562 : decode code 562 = .ok (.aload_n 0, 1) := by decide +kernel
theorem d_L_law_563 : decode code 563 = .ok (.iload_n 3, 1) := by decide +kernel
theorem d_L_law_564 : decode code 564 = .ok (.iconst 2, 1) := by decide +kernel
theorem d_L_law_565 : decode code 565 = .ok (.iadd, 1) := by decide +kernel
theorem d_L_law_566 : decode code 566 = .ok (.iaload, 1) := by decide +kernel
theorem d_L_law_567 : decode code 567 = .ok (.aload_n 0, 1) := by decide +kernel
theorem d_L_law_568 : decode code 568 = .ok (.iload_n 3, 1) := by decide +kernel
theorem d_L_law_569 : decode code 569 = .ok (.iconst 3, 1) := by decide +kernel
theorem d_L_law_570 : decode code 570 = .ok (.iadd, 1) := by decide +kernel
theorem d_L_law_571 : decode code 571 = .ok (.iaload, 1) := by decide +kernel
theorem d_L_law_572 : decode code 572 = .ok (.invokevirtual 67, 3) := by decide +kernel
theorem d_L_law_575 : decode code 575 = .ok (.aload_n 2, 1) := by decide +kernel
theorem d_L_law_576 : decode code 576 = .ok (.aload_n 0, 1) := by decide +kernel
theorem d_L_law_577 : decode code 577 = .ok (.iload_n 3, 1) := by decide +kernel
theorem d_L_law_578 : decode code 578 = .ok (.iconst 1, 1) := by decide +kernel
theorem d_L_law_579 : decode code 579 = .ok (.iadd, 1) := by decide +kernel
theorem d_L_law_580 : decode code 580 = .ok (.iaload, 1) := by decide +kernel
theorem d_L_law_581 : decode code 581 = .ok (.aload_n 0, 1) := by decide +kernel
theorem d_L_law_582 : decode code 582 = .ok (.iload_n 3, 1) := by decide +kernel
theorem d_L_law_583 : decode code 583 = .ok (.iconst 2, 1) := by decide +kernel
theorem d_L_law_584 : decode code 584 = .ok (.iadd, 1) := by decide +kernel
theorem d_L_law_585 : decode code 585 = .ok (.iaload, 1) := by decide +kernel
theorem d_L_law_586 : decode code 586 = .ok (.aload_n 0, 1) := by decide +kernel
theorem d_L_law_587 : decode code 587 = .ok (.iload_n 3, 1) := by decide +kernel
theorem d_L_law_588 : decode code 588 = .ok (.iconst 3, 1) := by decide +kernel
theorem d_L_law_589 : decode code 589 = .ok (.iadd, 1) := by decide +kernel
theorem d_L_law_590 : decode code 590 = .ok (.iaload, 1) := by decide +kernel
theorem d_L_law_591 : decode code 591 = .ok (.invokevirtual 70, 3) := by decide +kernel
theorem d_L_law_594 : decode code 594 = .ok (.if_icmp .eq 97, 3) := by decide +kernel
theorem d_L_law_597 : decode code 597 = .ok (.iconst 0, 1) := by decide +kernel
theorem d_L_law_598 : decode code 598 = .ok (.ireturn, 1) := by decide +kernel
theorem d_L_law_599 : decode code 599 = .ok (.aload_n 1, 1) := by decide +kernel
theorem d_L_law_600 : decode code 600 = .ok (.aload_n 0, 1) := by decide +kernel
theorem d_L_law_601 : decode code 601 = .ok (.iload_n 3, 1) := by decide +kernel
theorem d_L_law_602 : decode code 602 = .ok (.iconst 1, 1) := by decide +kernel
theorem d_L_law_603 : decode code 603 = .ok (.iadd, 1) := by decide +kernel
theorem d_L_law_604 : decode code 604 = .ok (.iaload, 1) := by decide +kernel
theorem d_L_law_605 : decode code 605 = .ok (.aload_n 0, 1) := by decide +kernel
theorem d_L_law_606 : decode code 606 = .ok (.iload_n 3, 1) := by decide +kernel
theorem d_L_law_607 : decode code 607 = .ok (.iconst 2, 1) := by decide +kernel
theorem d_L_law_608 : decode code 608 = .ok (.iadd, 1) := by decide +kernel
theorem d_L_law_609 : decode code 609 = .ok (.iaload, 1) := by decide +kernel
theorem d_L_law_610 : decode code 610 = .ok (.aload_n 0, 1) := by decide +kernel
theorem d_L_law_611 : decode code 611 = .ok (.iload_n 3, 1) := by decide +kernel
theorem d_L_law_612 : decode code 612 = .ok (.iconst 3, 1) := by decide +kernel
theorem d_L_law_613 : decode code 613 = .ok (.iadd, 1) := by decide +kernel
theorem d_L_law_614 : decode code 614 = .ok (.iaload, 1) := by decide +kernel
theorem d_L_law_615 : decode code 615 = .ok (.invokevirtual 71, 3) := by decide +kernel
theorem d_L_law_618 : decode code 618 = .ok (.aload_n 2, 1) := by decide +kernel
theorem d_L_law_619 : decode code 619 = .ok (.aload_n 0, 1) := by decide +kernel
theorem d_L_law_620 : decode code 620 = .ok (.iload_n 3, 1) := by decide +kernel
theorem d_L_law_621 : decode code 621 = .ok (.iconst 1, 1) := by decide +kernel
theorem d_L_law_622 : decode code 622 = .ok (.iadd, 1) := by decide +kernel
theorem d_L_law_623 : decode code 623 = .ok (.iaload, 1) := by decide +kernel
theorem d_L_law_624 : decode code 624 = .ok (.aload_n 0, 1) := by decide +kernel
theorem d_L_law_625 : decode code 625 = .ok (.iload_n 3, 1) := by decide +kernel
theorem d_L_law_626 : decode code 626 = .ok (.iconst 2, 1) := by decide +kernel
theorem d_L_law_627 : decode code 627 = .ok (.iadd, 1) := by decide +kernel
theorem d_L_law_628 : decode code 628 = .ok (.iaload, 1) := by decide +kernel
theorem d_L_law_629 : decode code 629 = .ok (.aload_n 0, 1) := by decide +kernel
theorem d_L_law_630 : decode code 630 = .ok (.iload_n 3, 1) := by decide +kernel
theorem d_L_law_631 : decode code 631 = .ok (.iconst 3, 1) := by decide +kernel
theorem d_L_law_632 : decode code 632 = .ok (.iadd, 1) := by decide +kernel
theorem d_L_law_633 : decode code 633 = .ok (.iaload, 1) := by decide +kernel
theorem d_L_law_634 : decode code 634 = .ok (.invokevirtual 74, 3) := by decide +kernel
theorem d_L_law_637 : decode code 637 = .ok (.if_icmp .eq 54, 3) := by decide +kernel
theorem d_L_law_640 : decode code 640 = .ok (.iconst 0, 1) := by decide +kernel
theorem d_L_law_641 : decode code 641 = .ok (.ireturn, 1) := by decide +kernel
theorem d_L_law_642 : decode code 642 = .ok (.aload_n 1, 1) := by decide +kernel
theorem d_L_law_643 : decode code 643 = .ok (.invokevirtual 75, 3) := by decide +kernel
theorem d_L_law_646 : decode code 646 = .ok (.aload_n 2, 1) := by decide +kernel
theorem d_L_law_647 : decode code 647 = .ok (.invokevirtual 78, 3) := by decide +kernel
theorem d_L_law_650 : decode code 650 = .ok (.if_icmp .eq 41, 3) := by decide +kernel
theorem d_L_law_653 : decode code 653 = .ok (.iconst 0, 1) := by decide +kernel
theorem d_L_law_654 : decode code 654 = .ok (.ireturn, 1) := by decide +kernel
theorem d_L_law_655 : decode code 655 = .ok (.aload_n 1, 1) := by decide +kernel
theorem d_L_law_656 : decode code 656 = .ok (.invokevirtual 79, 3) := by decide +kernel
theorem d_L_law_659 : decode code 659 = .ok (.aload_n 2, 1) := by decide +kernel
theorem d_L_law_660 : decode code 660 = .ok (.invokevirtual 82, 3) := by decide +kernel
theorem d_L_law_663 : decode code 663 = .ok (.if_icmp .eq 28, 3) := by decide +kernel
theorem d_L_law_666 : decode code 666 = .ok (.iconst 0, 1) := by decide +kernel
theorem d_L_law_667 : decode code 667 = .ok (.ireturn, 1) := by decide +kernel
theorem d_L_law_668 : decode code 668 = .ok (.aload_n 1, 1) := by decide +kernel
theorem d_L_law_669 : decode code 669 = .ok (.aload_n 0, 1) := by decide +kernel
theorem d_L_law_670 : decode code 670 = .ok (.iload_n 3, 1) := by decide +kernel
theorem d_L_law_671 : decode code 671 = .ok (.iconst 1, 1) := by decide +kernel
theorem d_L_law_672 : decode code 672 = .ok (.iadd, 1) := by decide +kernel
theorem d_L_law_673 : decode code 673 = .ok (.iaload, 1) := by decide +kernel
theorem d_L_law_674 : decode code 674 = .ok (.invokevirtual 83, 3) := by decide +kernel
theorem d_L_law_677 : decode code 677 = .ok (.aload_n 2, 1) := by decide +kernel
theorem d_L_law_678 : decode code 678 = .ok (.aload_n 0, 1) := by decide +kernel
theorem d_L_law_679 : decode code 679 = .ok (.iload_n 3, 1) := by decide +kernel
theorem d_L_law_680 : decode code 680 = .ok (.iconst 1, 1) := by decide +kernel
theorem d_L_law_681 : decode code 681 = .ok (.iadd, 1) := by decide +kernel
theorem d_L_law_682 : decode code 682 = .ok (.iaload, 1) := by decide +kernel
theorem d_L_law_683 : decode code 683 = .ok (.invokevirtual 86, 3) := by decide +kernel
theorem d_L_law_686 : decode code 686 = .ok (.if_icmp .eq 5, 3) := by decide +kernel
theorem d_L_law_689 : decode code 689 = .ok (.iconst 0, 1) := by decide +kernel
theorem d_L_law_690 : decode code 690 = .ok (.ireturn, 1) := by decide +kernel
theorem d_L_law_691 : decode code 691 = .ok (.iinc 3 5, 3) := by decide +kernel
theorem d_L_law_694 : decode code 694 = .ok (.goto (-676), 3) := by decide +kernel
theorem d_L_law_697 : decode code 697 = .ok (.iconst 1, 1) := by decide +kernel
theorem d_L_law_698 : decode code 698 = .ok (.ireturn, 1) := by decide +kernel

section SROWS
variable {G : XG} {A : Nat → Prop} {nL : Nat} {p : Program} {l : Launch} {e : Env} {R : Room} {s : State} {m : MethodId} {args : Array Value} {below : List Frame} {meth : Method} {c : Code} {cs sl : Nat} {Q : State → Prop} {pc : Nat} {Lc : List (Option XV)} {st : List XV} {μ : Mem} {own : String} {cc : ByteArray} {b L : Nat} {xs : Nat → Int32}
theorem xj_sld (E : XE G A own cc nL p s m args c) (hb99 : G.2.2.1 99 0 = b) (hX : va_X b L xs s s.heap) (hbl : b < s.heap.size) (hbA : ¬ A b) {i : Int32} (hin : vp_in i L) (hd : decode cc pc = .ok (.iaload, 1)) (kk : XJ G A nL p l e R s m args below meth c cs sl Q (pc + 1) Lc (.inl (xs i.toNatClampNeg) :: st) μ) : XJ G A nL p l e R s m args below meth c cs sl Q pc Lc (.inl i :: .inr (99, 0) :: st) μ := by
  intro ls H locs ho hol hl hP hS
  have k1 := kk ls H locs ho.tl.tl.int hol hl hP hS
  have es : ((.inl i :: .inr (99, 0) :: st : List XV)).map (cv G) = .int i :: .ref b :: st.map (cv G) := by show _ :: Value.ref (G.2.2.1 99 0) :: _ = _; rw [hb99]; rfl
  rw [es]
  exact va_sld E.1 E.2.1 hX hbl hbA hS hin hd k1
theorem xj_slen (E : XE G A own cc nL p s m args c) (hb99 : G.2.2.1 99 0 = b) (hX : va_X b L xs s s.heap) (hbl : b < s.heap.size) (hbA : ¬ A b) (hd : decode cc pc = .ok (.arraylength, 1)) (kk : XJ G A nL p l e R s m args below meth c cs sl Q (pc + 1) Lc (.inl (nI L) :: st) μ) : XJ G A nL p l e R s m args below meth c cs sl Q pc Lc (.inr (99, 0) :: st) μ := by
  intro ls H locs ho hol hl hP hS
  have k1 := kk ls H locs ho.tl.int hol hl hP hS
  have es : ((.inr (99, 0) :: st : List XV)).map (cv G) = .ref b :: st.map (cv G) := by show Value.ref (G.2.2.1 99 0) :: _ = _; rw [hb99]
  rw [es]
  exact va_slen E.1 E.2.1 hX hbl hbA hS hd k1
end SROWS

theorem is_binding {z : Int32} {μ μ1 : Mem} {r1 : Option XV} (hx : (fun r μ' => (¬ μ 0 0 7 = 0 ∧ r = some (.inl (-2)) ∧ μ' = μ) ∨ (μ 0 0 7 = 0 ∧ xnt μ = 8 ∧ r = some (.inl (-5)) ∧ μ' = μ) ∨ (μ 0 0 7 = 0 ∧ xnt μ < 8 ∧ r = some (.inl (nI (xnt μ))) ∧ μ' = mset (mset μ 2 0 (xnt μ) z) 1 0 0 (nI (xnt μ + 1)))) r1 μ1) : ∃ x, r1 = some (.inl x) := by
  rcases hx with h | h | h <;> (first | exact ⟨_, h.2.1⟩ | exact ⟨_, h.2.2.1⟩ | exact ⟨_, h.2.2.2.1⟩ | exact ⟨_, h.2.2.2.2.1⟩ | exact ⟨_, h.2.2.2.2.2.1⟩)
theorem fx_binding {z : Int32} {μ μ1 : Mem} {r1 : Option XV} (hx : (fun r μ' => (¬ μ 0 0 7 = 0 ∧ r = some (.inl (-2)) ∧ μ' = μ) ∨ (μ 0 0 7 = 0 ∧ xnt μ = 8 ∧ r = some (.inl (-5)) ∧ μ' = μ) ∨ (μ 0 0 7 = 0 ∧ xnt μ < 8 ∧ r = some (.inl (nI (xnt μ))) ∧ μ' = mset (mset μ 2 0 (xnt μ) z) 1 0 0 (nI (xnt μ + 1)))) r1 μ1) : fX μ μ1 := by
  rcases hx with ⟨-, -, rfl⟩ | ⟨-, -, -, rfl⟩ | ⟨-, -, -, rfl⟩
  · exact fun f hf => rfl
  · exact fun f hf => rfl
  · exact fun f hf => by repeat rw [mset_f (by omega)]

theorem is_carry {a b v : Int32} {μ μ1 : Mem} {r1 : Option XV} (hx : (fun r μ' => (¬ μ 0 0 7 = 0 ∧ r = some (.inl (-2)) ∧ μ' = μ) ∨ (μ 0 0 7 = 0 ∧ ¬ (inR a (xnt μ) ∧ inR b (xnt μ)) ∧ r = some (.inl (-3)) ∧ μ' = μ) ∨ (μ 0 0 7 = 0 ∧ inR a (xnt μ) ∧ inR b (xnt μ) ∧ xnb μ 0 = 16 ∧ r = some (.inl (-5)) ∧ μ' = μ) ∨ (μ 0 0 7 = 0 ∧ inR a (xnt μ) ∧ inR b (xnt μ) ∧ xnb μ 0 < 16 ∧ r = some (.inl 0) ∧ μ' = mset (mset (mset (mset μ 3 0 (xnb μ 0) a) 5 0 (xnb μ 0) b) 6 0 (xnb μ 0) (if μ 2 0 b.toNatClampNeg = 0 then 0 else v)) 4 0 0 (nI (xnb μ 0 + 1)))) r1 μ1) : ∃ x, r1 = some (.inl x) := by
  rcases hx with h | h | h | h <;> (first | exact ⟨_, h.2.1⟩ | exact ⟨_, h.2.2.1⟩ | exact ⟨_, h.2.2.2.1⟩ | exact ⟨_, h.2.2.2.2.1⟩ | exact ⟨_, h.2.2.2.2.2.1⟩)
theorem fx_carry {a b v : Int32} {μ μ1 : Mem} {r1 : Option XV} (hx : (fun r μ' => (¬ μ 0 0 7 = 0 ∧ r = some (.inl (-2)) ∧ μ' = μ) ∨ (μ 0 0 7 = 0 ∧ ¬ (inR a (xnt μ) ∧ inR b (xnt μ)) ∧ r = some (.inl (-3)) ∧ μ' = μ) ∨ (μ 0 0 7 = 0 ∧ inR a (xnt μ) ∧ inR b (xnt μ) ∧ xnb μ 0 = 16 ∧ r = some (.inl (-5)) ∧ μ' = μ) ∨ (μ 0 0 7 = 0 ∧ inR a (xnt μ) ∧ inR b (xnt μ) ∧ xnb μ 0 < 16 ∧ r = some (.inl 0) ∧ μ' = mset (mset (mset (mset μ 3 0 (xnb μ 0) a) 5 0 (xnb μ 0) b) 6 0 (xnb μ 0) (if μ 2 0 b.toNatClampNeg = 0 then 0 else v)) 4 0 0 (nI (xnb μ 0 + 1)))) r1 μ1) : fX μ μ1 := by
  rcases hx with ⟨-, -, rfl⟩ | ⟨-, -, -, rfl⟩ | ⟨-, -, -, -, -, rfl⟩ | ⟨-, -, -, -, -, rfl⟩
  · exact fun f hf => rfl
  · exact fun f hf => rfl
  · exact fun f hf => rfl
  · exact fun f hf => by repeat rw [mset_f (by omega)]

theorem is_interceptor {a b d : Int32} {μ μ1 : Mem} {r1 : Option XV} (hx : (fun r μ' => (¬ μ 0 0 7 = 0 ∧ r = some (.inl (-2)) ∧ μ' = μ) ∨ (μ 0 0 7 = 0 ∧ ¬ (inR a 10 ∧ inR b 16 ∧ inR d 6) ∧ r = some (.inl (-4)) ∧ μ' = μ) ∨ (μ 0 0 7 = 0 ∧ (inR a 10 ∧ inR b 16 ∧ inR d 6) ∧ xni μ = 8 ∧ r = some (.inl (-5)) ∧ μ' = μ) ∨ (μ 0 0 7 = 0 ∧ (inR a 10 ∧ inR b 16 ∧ inR d 6) ∧ xni μ < 8 ∧ r = some (.inl (nI (xni μ))) ∧ μ' = mset (mset (mset (mset (mset μ 8 (xni μ) 0 a) 8 (xni μ) 1 b) 8 (xni μ) 2 d) 4 (xni μ + 1) 0 0) 0 0 2 (nI (xni μ + 1)))) r1 μ1) : ∃ x, r1 = some (.inl x) := by
  rcases hx with h | h | h | h <;> (first | exact ⟨_, h.2.1⟩ | exact ⟨_, h.2.2.1⟩ | exact ⟨_, h.2.2.2.1⟩ | exact ⟨_, h.2.2.2.2.1⟩ | exact ⟨_, h.2.2.2.2.2.1⟩)
theorem fx_interceptor {a b d : Int32} {μ μ1 : Mem} {r1 : Option XV} (hx : (fun r μ' => (¬ μ 0 0 7 = 0 ∧ r = some (.inl (-2)) ∧ μ' = μ) ∨ (μ 0 0 7 = 0 ∧ ¬ (inR a 10 ∧ inR b 16 ∧ inR d 6) ∧ r = some (.inl (-4)) ∧ μ' = μ) ∨ (μ 0 0 7 = 0 ∧ (inR a 10 ∧ inR b 16 ∧ inR d 6) ∧ xni μ = 8 ∧ r = some (.inl (-5)) ∧ μ' = μ) ∨ (μ 0 0 7 = 0 ∧ (inR a 10 ∧ inR b 16 ∧ inR d 6) ∧ xni μ < 8 ∧ r = some (.inl (nI (xni μ))) ∧ μ' = mset (mset (mset (mset (mset μ 8 (xni μ) 0 a) 8 (xni μ) 1 b) 8 (xni μ) 2 d) 4 (xni μ + 1) 0 0) 0 0 2 (nI (xni μ + 1)))) r1 μ1) : fX μ μ1 := by
  rcases hx with ⟨-, -, rfl⟩ | ⟨-, -, -, rfl⟩ | ⟨-, -, -, -, rfl⟩ | ⟨-, -, -, -, rfl⟩
  · exact fun f hf => rfl
  · exact fun f hf => rfl
  · exact fun f hf => rfl
  · exact fun f hf => by repeat rw [mset_f (by omega)]

theorem is_decorator {a b d f : Int32} {μ μ1 : Mem} {r1 : Option XV} (hx : (fun r μ' => (¬ μ 0 0 7 = 0 ∧ r = some (.inl (-2)) ∧ μ' = μ) ∨ (μ 0 0 7 = 0 ∧ ¬ (inR a 10 ∧ inR b 8 ∧ inR d 16 ∧ inR f 6) ∧ r = some (.inl (-4)) ∧ μ' = μ) ∨ (μ 0 0 7 = 0 ∧ (inR a 10 ∧ inR b 8 ∧ inR d 16 ∧ inR f 6) ∧ xnd μ = 4 ∧ r = some (.inl (-5)) ∧ μ' = μ) ∨ (μ 0 0 7 = 0 ∧ (inR a 10 ∧ inR b 8 ∧ inR d 16 ∧ inR f 6) ∧ xnd μ < 4 ∧ r = some (.inl (nI (xnd μ))) ∧ μ' = mset (mset (mset (mset (mset μ 10 (xnd μ) 0 a) 10 (xnd μ) 1 b) 10 (xnd μ) 2 d) 10 (xnd μ) 3 f) 0 0 4 (nI (xnd μ + 1)))) r1 μ1) : ∃ x, r1 = some (.inl x) := by
  rcases hx with h | h | h | h <;> (first | exact ⟨_, h.2.1⟩ | exact ⟨_, h.2.2.1⟩ | exact ⟨_, h.2.2.2.1⟩ | exact ⟨_, h.2.2.2.2.1⟩ | exact ⟨_, h.2.2.2.2.2.1⟩)
theorem fx_decorator {a b d f : Int32} {μ μ1 : Mem} {r1 : Option XV} (hx : (fun r μ' => (¬ μ 0 0 7 = 0 ∧ r = some (.inl (-2)) ∧ μ' = μ) ∨ (μ 0 0 7 = 0 ∧ ¬ (inR a 10 ∧ inR b 8 ∧ inR d 16 ∧ inR f 6) ∧ r = some (.inl (-4)) ∧ μ' = μ) ∨ (μ 0 0 7 = 0 ∧ (inR a 10 ∧ inR b 8 ∧ inR d 16 ∧ inR f 6) ∧ xnd μ = 4 ∧ r = some (.inl (-5)) ∧ μ' = μ) ∨ (μ 0 0 7 = 0 ∧ (inR a 10 ∧ inR b 8 ∧ inR d 16 ∧ inR f 6) ∧ xnd μ < 4 ∧ r = some (.inl (nI (xnd μ))) ∧ μ' = mset (mset (mset (mset (mset μ 10 (xnd μ) 0 a) 10 (xnd μ) 1 b) 10 (xnd μ) 2 d) 10 (xnd μ) 3 f) 0 0 4 (nI (xnd μ + 1)))) r1 μ1) : fX μ μ1 := by
  rcases hx with ⟨-, -, rfl⟩ | ⟨-, -, -, rfl⟩ | ⟨-, -, -, -, rfl⟩ | ⟨-, -, -, -, rfl⟩
  · exact fun f hf => rfl
  · exact fun f hf => rfl
  · exact fun f hf => rfl
  · exact fun f hf => by repeat rw [mset_f (by omega)]

theorem is_component {a : Int32} {μ μ1 : Mem} {r1 : Option XV} (hx : (fun r μ' => (¬ μ 0 0 7 = 0 ∧ r = some (.inl (-2)) ∧ μ' = μ) ∨ (μ 0 0 7 = 0 ∧ ¬ inR a 256 ∧ r = some (.inl (-4)) ∧ μ' = μ) ∨ (μ 0 0 7 = 0 ∧ inR a 256 ∧ xnp μ = 4 ∧ r = some (.inl (-5)) ∧ μ' = μ) ∨ (μ 0 0 7 = 0 ∧ inR a 256 ∧ xnp μ < 4 ∧ r = some (.inl (nI (xnp μ))) ∧ μ' = mset (pDecl μ (xnp μ) a 4) 0 0 6 (nI (xnp μ + 1)))) r1 μ1) : ∃ x, r1 = some (.inl x) := by
  rcases hx with h | h | h | h <;> (first | exact ⟨_, h.2.1⟩ | exact ⟨_, h.2.2.1⟩ | exact ⟨_, h.2.2.2.1⟩ | exact ⟨_, h.2.2.2.2.1⟩ | exact ⟨_, h.2.2.2.2.2.1⟩)
theorem fx_component {a : Int32} {μ μ1 : Mem} {r1 : Option XV} (hx : (fun r μ' => (¬ μ 0 0 7 = 0 ∧ r = some (.inl (-2)) ∧ μ' = μ) ∨ (μ 0 0 7 = 0 ∧ ¬ inR a 256 ∧ r = some (.inl (-4)) ∧ μ' = μ) ∨ (μ 0 0 7 = 0 ∧ inR a 256 ∧ xnp μ = 4 ∧ r = some (.inl (-5)) ∧ μ' = μ) ∨ (μ 0 0 7 = 0 ∧ inR a 256 ∧ xnp μ < 4 ∧ r = some (.inl (nI (xnp μ))) ∧ μ' = mset (pDecl μ (xnp μ) a 4) 0 0 6 (nI (xnp μ + 1)))) r1 μ1) : fX μ μ1 := by
  rcases hx with ⟨-, -, rfl⟩ | ⟨-, -, -, rfl⟩ | ⟨-, -, -, -, rfl⟩ | ⟨-, -, -, -, rfl⟩
  · exact fun f hf => rfl
  · exact fun f hf => rfl
  · exact fun f hf => rfl
  · exact fun f hf => by rw [mset_f (by omega), pDecl_f (by omega) (by omega) (by omega)]

theorem is_bindInterceptor {a b v : Int32} {μ μ1 : Mem} {r1 : Option XV} (hx : (fun r μ' => (¬ μ 0 0 7 = 0 ∧ r = some (.inl (-2)) ∧ μ' = μ) ∨ (μ 0 0 7 = 0 ∧ ¬ (inR a (xni μ) ∧ inR b (xnt μ)) ∧ r = some (.inl (-3)) ∧ μ' = μ) ∨ (μ 0 0 7 = 0 ∧ ∃ i, i < xni μ ∧ a = nI i ∧ inR b (xnt μ) ∧ ((xnb μ (i + 1) = 4 ∧ r = some (.inl (-5)) ∧ μ' = μ) ∨ (xnb μ (i + 1) < 4 ∧ r = some (.inl 0) ∧ μ' = addB μ (i + 1) b v)))) r1 μ1) : ∃ x, r1 = some (.inl x) := by
  rcases hx with h | h | ⟨-, i, -, -, -, h⟩
  · exact ⟨_, h.2.1⟩
  · exact ⟨_, h.2.2.1⟩
  · rcases h with h | h
    · exact ⟨_, h.2.1⟩
    · exact ⟨_, h.2.1⟩
theorem fx_bindInterceptor {a b v : Int32} {μ μ1 : Mem} {r1 : Option XV} (hx : (fun r μ' => (¬ μ 0 0 7 = 0 ∧ r = some (.inl (-2)) ∧ μ' = μ) ∨ (μ 0 0 7 = 0 ∧ ¬ (inR a (xni μ) ∧ inR b (xnt μ)) ∧ r = some (.inl (-3)) ∧ μ' = μ) ∨ (μ 0 0 7 = 0 ∧ ∃ i, i < xni μ ∧ a = nI i ∧ inR b (xnt μ) ∧ ((xnb μ (i + 1) = 4 ∧ r = some (.inl (-5)) ∧ μ' = μ) ∨ (xnb μ (i + 1) < 4 ∧ r = some (.inl 0) ∧ μ' = addB μ (i + 1) b v)))) r1 μ1) : fX μ μ1 := by
  rcases hx with ⟨-, -, rfl⟩ | ⟨-, -, -, rfl⟩ | ⟨-, i, -, -, -, h⟩
  · exact fun f hf => rfl
  · exact fun f hf => rfl
  · rcases h with ⟨-, -, rfl⟩ | ⟨-, -, rfl⟩
    · exact fun f hf => rfl
    · exact fun f hf => by unfold addB; rw [mset_f (by omega), mset_f (by omega), mset_f (by omega)]

theorem is_bind {a y b v : Int32} {μ μ1 : Mem} {r1 : Option XV} (hx : (fun r μ' => (¬ μ 0 0 7 = 0 ∧ r = some (.inl (-2)) ∧ μ' = μ) ∨ (μ 0 0 7 = 0 ∧ ¬ ((inR a (xnp μ) ∧ ¬ y < -1 ∧ ¬ 4 ≤ y) ∧ inR b (xnt μ)) ∧ r = some (.inl (-3)) ∧ μ' = μ) ∨ (μ 0 0 7 = 0 ∧ ∃ j k, j < xnp μ ∧ k < 5 ∧ a = nI j ∧ y = nI k - 1 ∧ inR b (xnt μ) ∧ ((xnb μ (5 * j + k + 9) = 4 ∧ r = some (.inl (-5)) ∧ μ' = μ) ∨ (xnb μ (5 * j + k + 9) < 4 ∧ r = some (.inl 0) ∧ μ' = addB μ (5 * j + k + 9) b v)))) r1 μ1) : ∃ x, r1 = some (.inl x) := by
  rcases hx with h | h | ⟨-, j, k, -, -, -, -, -, h⟩
  · exact ⟨_, h.2.1⟩
  · exact ⟨_, h.2.2.1⟩
  · rcases h with h | h
    · exact ⟨_, h.2.1⟩
    · exact ⟨_, h.2.1⟩
theorem fx_bind {a y b v : Int32} {μ μ1 : Mem} {r1 : Option XV} (hx : (fun r μ' => (¬ μ 0 0 7 = 0 ∧ r = some (.inl (-2)) ∧ μ' = μ) ∨ (μ 0 0 7 = 0 ∧ ¬ ((inR a (xnp μ) ∧ ¬ y < -1 ∧ ¬ 4 ≤ y) ∧ inR b (xnt μ)) ∧ r = some (.inl (-3)) ∧ μ' = μ) ∨ (μ 0 0 7 = 0 ∧ ∃ j k, j < xnp μ ∧ k < 5 ∧ a = nI j ∧ y = nI k - 1 ∧ inR b (xnt μ) ∧ ((xnb μ (5 * j + k + 9) = 4 ∧ r = some (.inl (-5)) ∧ μ' = μ) ∨ (xnb μ (5 * j + k + 9) < 4 ∧ r = some (.inl 0) ∧ μ' = addB μ (5 * j + k + 9) b v)))) r1 μ1) : fX μ μ1 := by
  rcases hx with ⟨-, -, rfl⟩ | ⟨-, -, -, rfl⟩ | ⟨-, j, k, -, -, -, -, -, h⟩
  · exact fun f hf => rfl
  · exact fun f hf => rfl
  · rcases h with ⟨-, -, rfl⟩ | ⟨-, -, rfl⟩
    · exact fun f hf => rfl
    · exact fun f hf => by unfold addB; rw [mset_f (by omega), mset_f (by omega), mset_f (by omega)]

theorem is_list {a y b : Int32} {μ μ1 : Mem} {r1 : Option XV} (hx : (fun r μ' => (¬ μ 0 0 7 = 0 ∧ r = some (.inl (-2)) ∧ μ' = μ) ∨ (μ 0 0 7 = 0 ∧ ¬ ((inR a (xnp μ) ∧ ¬ y < -1 ∧ ¬ 4 ≤ y) ∧ inR b (xni μ)) ∧ r = some (.inl (-3)) ∧ μ' = μ) ∨ (μ 0 0 7 = 0 ∧ ∃ j k, j < xnp μ ∧ k < 5 ∧ a = nI j ∧ y = nI k - 1 ∧ inR b (xni μ) ∧ ((xnl μ (5 * j + k) = 4 ∧ r = some (.inl (-5)) ∧ μ' = μ) ∨ (xnl μ (5 * j + k) < 4 ∧ r = some (.inl 0) ∧ μ' = mset (mset μ 14 (5 * j + k) (xnl μ (5 * j + k)) b) 13 (5 * j + k) 2 (nI (xnl μ (5 * j + k) + 1)))))) r1 μ1) : ∃ x, r1 = some (.inl x) := by
  rcases hx with h | h | ⟨-, j, k, -, -, -, -, -, h⟩
  · exact ⟨_, h.2.1⟩
  · exact ⟨_, h.2.2.1⟩
  · rcases h with h | h
    · exact ⟨_, h.2.1⟩
    · exact ⟨_, h.2.1⟩
theorem fx_list {a y b : Int32} {μ μ1 : Mem} {r1 : Option XV} (hx : (fun r μ' => (¬ μ 0 0 7 = 0 ∧ r = some (.inl (-2)) ∧ μ' = μ) ∨ (μ 0 0 7 = 0 ∧ ¬ ((inR a (xnp μ) ∧ ¬ y < -1 ∧ ¬ 4 ≤ y) ∧ inR b (xni μ)) ∧ r = some (.inl (-3)) ∧ μ' = μ) ∨ (μ 0 0 7 = 0 ∧ ∃ j k, j < xnp μ ∧ k < 5 ∧ a = nI j ∧ y = nI k - 1 ∧ inR b (xni μ) ∧ ((xnl μ (5 * j + k) = 4 ∧ r = some (.inl (-5)) ∧ μ' = μ) ∨ (xnl μ (5 * j + k) < 4 ∧ r = some (.inl 0) ∧ μ' = mset (mset μ 14 (5 * j + k) (xnl μ (5 * j + k)) b) 13 (5 * j + k) 2 (nI (xnl μ (5 * j + k) + 1)))))) r1 μ1) : fX μ μ1 := by
  rcases hx with ⟨-, -, rfl⟩ | ⟨-, -, -, rfl⟩ | ⟨-, j, k, -, -, -, -, -, h⟩
  · exact fun f hf => rfl
  · exact fun f hf => rfl
  · rcases h with ⟨-, -, rfl⟩ | ⟨-, -, rfl⟩
    · exact fun f hf => rfl
    · exact fun f hf => by rw [mset_f (by omega), mset_f (by omega)]

theorem is_flags {a y b : Int32} {μ μ1 : Mem} {r1 : Option XV} (hx : (fun r μ' => (¬ μ 0 0 7 = 0 ∧ r = some (.inl (-2)) ∧ μ' = μ) ∨ (μ 0 0 7 = 0 ∧ ¬ (inR a (xnp μ) ∧ inR y 4) ∧ r = some (.inl (-3)) ∧ μ' = μ) ∨ (μ 0 0 7 = 0 ∧ (inR a (xnp μ) ∧ inR y 4) ∧ ¬ inR b 8 ∧ r = some (.inl (-4)) ∧ μ' = μ) ∨ (μ 0 0 7 = 0 ∧ ∃ j k, j < xnp μ ∧ k < 4 ∧ a = nI j ∧ y = nI k ∧ inR b 8 ∧ r = some (.inl 0) ∧ μ' = mset μ 13 (5 * j + 1 + k) 3 b)) r1 μ1) : ∃ x, r1 = some (.inl x) := by
  rcases hx with h | h | h | ⟨-, j, k, -, -, -, -, -, h, -⟩
  · exact ⟨_, h.2.1⟩
  · exact ⟨_, h.2.2.1⟩
  · exact ⟨_, h.2.2.2.1⟩
  · exact ⟨_, h⟩
theorem fx_flags {a y b : Int32} {μ μ1 : Mem} {r1 : Option XV} (hx : (fun r μ' => (¬ μ 0 0 7 = 0 ∧ r = some (.inl (-2)) ∧ μ' = μ) ∨ (μ 0 0 7 = 0 ∧ ¬ (inR a (xnp μ) ∧ inR y 4) ∧ r = some (.inl (-3)) ∧ μ' = μ) ∨ (μ 0 0 7 = 0 ∧ (inR a (xnp μ) ∧ inR y 4) ∧ ¬ inR b 8 ∧ r = some (.inl (-4)) ∧ μ' = μ) ∨ (μ 0 0 7 = 0 ∧ ∃ j k, j < xnp μ ∧ k < 4 ∧ a = nI j ∧ y = nI k ∧ inR b 8 ∧ r = some (.inl 0) ∧ μ' = mset μ 13 (5 * j + 1 + k) 3 b)) r1 μ1) : fX μ μ1 := by
  rcases hx with ⟨-, -, rfl⟩ | ⟨-, -, -, rfl⟩ | ⟨-, -, -, -, rfl⟩ | ⟨-, j, k, -, -, -, -, -, -, rfl⟩
  · exact fun f hf => rfl
  · exact fun f hf => rfl
  · exact fun f hf => rfl
  · exact fun f hf => by rw [mset_f (by omega)]

theorem is_deploy {μ μ1 : Mem} {r1 : Option XV} (hx : (fun r μ' => (¬ μ 0 0 7 = 0 ∧ r = some (.inl (-2)) ∧ μ' = μ) ∨ (μ 0 0 7 = 0 ∧ ∃ x μ1, r = some (.inl x) ∧ frS μ μ1 ∧ xDep μ x ∧ μ' = mset μ1 0 0 7 (if x = 0 then 1 else 0))) r1 μ1) : ∃ x, r1 = some (.inl x) := by
  rcases hx with h | ⟨-, x, μa, h, -⟩
  · exact ⟨_, h.2.1⟩
  · exact ⟨_, h⟩
theorem fx_deploy {μ μ1 : Mem} {r1 : Option XV} (hx : (fun r μ' => (¬ μ 0 0 7 = 0 ∧ r = some (.inl (-2)) ∧ μ' = μ) ∨ (μ 0 0 7 = 0 ∧ ∃ x μ1, r = some (.inl x) ∧ frS μ μ1 ∧ xDep μ x ∧ μ' = mset μ1 0 0 7 (if x = 0 then 1 else 0))) r1 μ1) : fX μ μ1 := by
  rcases hx with ⟨-, -, rfl⟩ | ⟨-, x, μa, -, hs, -, rfl⟩
  · exact fun f hf => rfl
  · exact fun f hf => (mset_f (by omega)).trans (hs f (by omega))

theorem is_length {a y : Int32} {μ μ1 : Mem} {r1 : Option XV} (hx : (fun r μ' => (μ 0 0 7 = 0 ∧ r = some (.inl (-6)) ∧ μ' = μ) ∨ (¬ μ 0 0 7 = 0 ∧ ¬ (inR a (xnp μ) ∧ inR y 7) ∧ r = some (.inl (-3)) ∧ μ' = μ) ∨ (¬ μ 0 0 7 = 0 ∧ ∃ j k, j < xnp μ ∧ k < 7 ∧ a = nI j ∧ y = nI k ∧ r = some (.inl (nI (xChn μ j k).length)) ∧ frS μ μ')) r1 μ1) : ∃ x, r1 = some (.inl x) := by
  rcases hx with h | h | ⟨-, j, k, -, -, -, -, h, -⟩
  · exact ⟨_, h.2.1⟩
  · exact ⟨_, h.2.2.1⟩
  · exact ⟨_, h⟩
theorem fx_length {a y : Int32} {μ μ1 : Mem} {r1 : Option XV} (hx : (fun r μ' => (μ 0 0 7 = 0 ∧ r = some (.inl (-6)) ∧ μ' = μ) ∨ (¬ μ 0 0 7 = 0 ∧ ¬ (inR a (xnp μ) ∧ inR y 7) ∧ r = some (.inl (-3)) ∧ μ' = μ) ∨ (¬ μ 0 0 7 = 0 ∧ ∃ j k, j < xnp μ ∧ k < 7 ∧ a = nI j ∧ y = nI k ∧ r = some (.inl (nI (xChn μ j k).length)) ∧ frS μ μ')) r1 μ1) : fX μ μ1 := by
  rcases hx with ⟨-, -, rfl⟩ | ⟨-, -, -, rfl⟩ | ⟨-, j, k, -, -, -, -, -, h⟩
  · exact fun f hf => rfl
  · exact fun f hf => rfl
  · exact h.x

theorem is_element {a y b : Int32} {μ μ1 : Mem} {r1 : Option XV} (hx : (fun r μ' => (μ 0 0 7 = 0 ∧ r = some (.inl (-6)) ∧ μ' = μ) ∨ (¬ μ 0 0 7 = 0 ∧ ¬ (inR a (xnp μ) ∧ inR y 7) ∧ r = some (.inl (-3)) ∧ μ' = μ) ∨ (¬ μ 0 0 7 = 0 ∧ ∃ j k, j < xnp μ ∧ k < 7 ∧ a = nI j ∧ y = nI k ∧ frS μ μ' ∧ ((¬ inR b (xChn μ j k).length ∧ r = some (.inl (-3))) ∨ ∃ i q, (xChn μ j k)[i]? = some q ∧ b = nI i ∧ r = some (.inl q.1)))) r1 μ1) : ∃ x, r1 = some (.inl x) := by
  rcases hx with h | h | ⟨-, j, k, -, -, -, -, -, h⟩
  · exact ⟨_, h.2.1⟩
  · exact ⟨_, h.2.2.1⟩
  · rcases h with h | ⟨i, q, -, -, h⟩
    · exact ⟨_, h.2⟩
    · exact ⟨_, h⟩
theorem fx_element {a y b : Int32} {μ μ1 : Mem} {r1 : Option XV} (hx : (fun r μ' => (μ 0 0 7 = 0 ∧ r = some (.inl (-6)) ∧ μ' = μ) ∨ (¬ μ 0 0 7 = 0 ∧ ¬ (inR a (xnp μ) ∧ inR y 7) ∧ r = some (.inl (-3)) ∧ μ' = μ) ∨ (¬ μ 0 0 7 = 0 ∧ ∃ j k, j < xnp μ ∧ k < 7 ∧ a = nI j ∧ y = nI k ∧ frS μ μ' ∧ ((¬ inR b (xChn μ j k).length ∧ r = some (.inl (-3))) ∨ ∃ i q, (xChn μ j k)[i]? = some q ∧ b = nI i ∧ r = some (.inl q.1)))) r1 μ1) : fX μ μ1 := by
  rcases hx with ⟨-, -, rfl⟩ | ⟨-, -, -, rfl⟩ | ⟨-, j, k, -, -, -, -, h, -⟩
  · exact fun f hf => rfl
  · exact fun f hf => rfl
  · exact h.x

theorem is_invoke {a y b : Int32} {μ μ1 : Mem} {r1 : Option XV} (hx : (fun r μ' => (μ 0 0 7 = 0 ∧ r = some (.inl (-6)) ∧ μ' = μ) ∨ (¬ μ 0 0 7 = 0 ∧ ¬ (inR a (xnp μ) ∧ inR y 7) ∧ r = some (.inl (-3)) ∧ μ' = μ) ∨ (¬ μ 0 0 7 = 0 ∧ ∃ j k, j < xnp μ ∧ k < 7 ∧ a = nI j ∧ y = nI k ∧ ∃ μ1, frS μ μ1 ∧ xCh μ1 (xChn μ j k) ∧ r = some (.inl (nI (xRun μ1 (xChn μ j k).length k (if k < 4 then b else 0) (xFl μ j k)).2.1)) ∧ μ' = mrun μ1 (nI k) (xFl μ j k) (xRun μ1 (xChn μ j k).length k (if k < 4 then b else 0) (xFl μ j k)))) r1 μ1) : ∃ x, r1 = some (.inl x) := by
  rcases hx with h | h | ⟨-, j, k, -, -, -, -, μa, -, -, h, -⟩
  · exact ⟨_, h.2.1⟩
  · exact ⟨_, h.2.2.1⟩
  · exact ⟨_, h⟩
theorem fx_invoke {a y b : Int32} {μ μ1 : Mem} {r1 : Option XV} (hx : (fun r μ' => (μ 0 0 7 = 0 ∧ r = some (.inl (-6)) ∧ μ' = μ) ∨ (¬ μ 0 0 7 = 0 ∧ ¬ (inR a (xnp μ) ∧ inR y 7) ∧ r = some (.inl (-3)) ∧ μ' = μ) ∨ (¬ μ 0 0 7 = 0 ∧ ∃ j k, j < xnp μ ∧ k < 7 ∧ a = nI j ∧ y = nI k ∧ ∃ μ1, frS μ μ1 ∧ xCh μ1 (xChn μ j k) ∧ r = some (.inl (nI (xRun μ1 (xChn μ j k).length k (if k < 4 then b else 0) (xFl μ j k)).2.1)) ∧ μ' = mrun μ1 (nI k) (xFl μ j k) (xRun μ1 (xChn μ j k).length k (if k < 4 then b else 0) (xFl μ j k)))) r1 μ1) : fX μ μ1 := by
  rcases hx with ⟨-, -, rfl⟩ | ⟨-, -, -, rfl⟩ | ⟨-, j, k, -, -, -, -, μa, hs, -, -, rfl⟩
  · exact fun f hf => rfl
  · exact fun f hf => rfl
  · exact fun f hf => (mrun_f (by omega) (by omega)).trans (hs f (by omega))

theorem is_result {μ μ1 : Mem} {r1 : Option XV} (hx : (fun r μ' => r = some (.inl (μ 22 0 2)) ∧ μ' = μ) r1 μ1) : ∃ x, r1 = some (.inl x) := by
  exact ⟨_, hx.1⟩
theorem fx_result {μ μ1 : Mem} {r1 : Option XV} (hx : (fun r μ' => r = some (.inl (μ 22 0 2)) ∧ μ' = μ) r1 μ1) : fX μ μ1 := by
  rw [hx.2]
  exact fun f hf => rfl

theorem is_error {μ μ1 : Mem} {r1 : Option XV} (hx : (fun r μ' => r = some (.inl (μ 22 0 3)) ∧ μ' = μ) r1 μ1) : ∃ x, r1 = some (.inl x) := by
  exact ⟨_, hx.1⟩
theorem fx_error {μ μ1 : Mem} {r1 : Option XV} (hx : (fun r μ' => r = some (.inl (μ 22 0 3)) ∧ μ' = μ) r1 μ1) : fX μ μ1 := by
  rw [hx.2]
  exact fun f hf => rfl

theorem is_log {b : Int32} {n : Nat} {μ μ1 : Mem} {r1 : Option XV} (hx : (fun (n : Nat) => (fun r μ' => μ' = μ ∧ ((¬ inR b n ∧ r = some (.inl (-3))) ∨ ∃ i, i < n ∧ b = nI i ∧ r = some (.inl (μ 23 0 i))))) n r1 μ1) : ∃ x, r1 = some (.inl x) := by
  rcases hx.2 with h | ⟨i, -, -, h⟩
  · exact ⟨_, h.2⟩
  · exact ⟨_, h⟩
theorem fx_log {b : Int32} {n : Nat} {μ μ1 : Mem} {r1 : Option XV} (hx : (fun (n : Nat) => (fun r μ' => μ' = μ ∧ ((¬ inR b n ∧ r = some (.inl (-3))) ∨ ∃ i, i < n ∧ b = nI i ∧ r = some (.inl (μ 23 0 i))))) n r1 μ1) : fX μ μ1 := by
  rw [hx.1]
  exact fun f hf => rfl
