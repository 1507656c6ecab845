theorem nI_ad (k c : Nat) : nI k + nI c = nI (k + c) := (Int32.ofNat_add k c).symm
theorem inL {k c L : Nat} (h : k + c < L) (hL : L ≤ 2560) : vp_in (nI k + nI c) L := by rw [nI_ad]; exact vp_in_nI h (by omega)
theorem gt5 {k L : Nat} (hk : k ≤ 2600) (hL : L ≤ 2560) (h : ¬ nI L - 5 < nI k) : k + 5 ≤ L := by
  by_cases h5 : 5 ≤ L
  · obtain ⟨t, rfl⟩ : ∃ t, L = t + 5 := ⟨L - 5, by omega⟩
    have e : nI (t + 5) - 5 = nI t := by rw [← nI_ad]; exact Int32.add_sub_cancel _ _
    rw [e] at h
    apply Classical.byContradiction
    intro z
    exact h (nI_lt (show t < k by omega) (by omega))
  · exfalso
    apply h
    have hk0 : (0 : Int32) ≤ nI k := Int32.not_lt.mp (nI_pos (by omega))
    have : L = 0 ∨ L = 1 ∨ L = 2 ∨ L = 3 ∨ L = 4 := by omega
    have hn : nI L - 5 < 0 := by rcases this with rfl | rfl | rfl | rfl | rfl <;> decide
    rw [Int32.lt_iff_toInt_lt] at hn ⊢
    rw [Int32.le_iff_toInt_le] at hk0
    omega

set_option maxRecDepth 100000 in
set_option maxHeartbeats 4000000 in
theorem law_0 {p : Program} {l : Launch} {e : Env} {s : State} {m : MethodId} {below : List Frame} {meth : Method} {c : Code} {b L : Nat} {xs : Nat → Int32} {G : XG} (hI : XI G) (E : XE G (fun z => s.heap.size ≤ z) RL code 4 p s m #[Value.ref b] c) (hb99 : G.2.2.1 99 0 = b) (hX : va_X b L xs s s.heap) (hbl : b < s.heap.size) (hL : L ≤ 2560) {k : Nat} {μ : Mem} (hk : k + 5 ≤ L) (h : REL μ) (hK : ∀ μ', REL μ' → XJ G (fun z => s.heap.size ≤ z) 4 p l e room_1 s m #[Value.ref b] below meth c 600000 7302250 (lw_Z below #[Value.ref b] s) 691 [some (.inr (99, 0)), some (.inr (0, 0)), some (.inr (24, 0)), some (.inl (nI k))] [] μ') : XJ G (fun z => s.heap.size ≤ z) 4 p l e room_1 s m #[Value.ref b] below meth c 600000 7302250 (lw_Z below #[Value.ref b] s) 116 [some (.inr (99, 0)), some (.inr (0, 0)), some (.inr (24, 0)), some (.inl (nI k))] [] μ := by
  have hbA : ¬ (fun z => s.heap.size ≤ z) b := by show ¬ s.heap.size ≤ b; omega
  have hin1 : vp_in (nI k + 1) L := inL (c := 1) (by omega) hL
  have hin2 : vp_in (nI k + 2) L := inL (c := 2) (by omega) hL
  have hin3 : vp_in (nI k + 3) L := inL (c := 3) (by omega) hL
  have hin4 : vp_in (nI k + 4) L := inL (c := 4) (by omega) hL
  refine xj_aload_n E d_L_law_116 rfl ?_
  refine xj_callV E (k_X9_clear l G hI _) cw_L_13 cv_X9_clear (by decide) rfl rfl rfl ⟨by decide, by decide⟩ (Nat.le_of_ble_eq_true rfl) d_L_law_117 ⟨Nat.le_of_ble_eq_true rfl, Nat.le_of_ble_eq_true rfl⟩ (fun r117 μ117 ho117 hp117 => ?_)
  have e0 : r117 = none := hp117.1
  subst e0
  refine xj_aload_n E d_L_law_120 rfl ?_
  refine xj_callV E (k_X10_clear l G hI _) cw_L_16 cv_X10_clear (by decide) rfl rfl rfl ⟨by decide, by decide⟩ (Nat.le_of_ble_eq_true rfl) d_L_law_121 ⟨Nat.le_of_ble_eq_true rfl, Nat.le_of_ble_eq_true rfl⟩ (fun r121 μ121 ho121 hp121 => ?_)
  obtain ⟨-, rfl, hR⟩ := rel_clear (μ := μ) hp117 hp121
  refine xj_goto (tgt := 691) E d_L_law_124 (by decide) ?_
  exact hK _ hR

set_option maxRecDepth 100000 in
set_option maxHeartbeats 4000000 in
theorem law_2 {p : Program} {l : Launch} {e : Env} {s : State} {m : MethodId} {below : List Frame} {meth : Method} {c : Code} {b L : Nat} {xs : Nat → Int32} {G : XG} (hI : XI G) (E : XE G (fun z => s.heap.size ≤ z) RL code 4 p s m #[Value.ref b] c) (hb99 : G.2.2.1 99 0 = b) (hX : va_X b L xs s s.heap) (hbl : b < s.heap.size) (hL : L ≤ 2560) {k : Nat} {μ : Mem} (hk : k + 5 ≤ L) (h : REL μ) (hK : ∀ μ', REL μ' → XJ G (fun z => s.heap.size ≤ z) 4 p l e room_1 s m #[Value.ref b] below meth c 600000 7302250 (lw_Z below #[Value.ref b] s) 691 [some (.inr (99, 0)), some (.inr (0, 0)), some (.inr (24, 0)), some (.inl (nI k))] [] μ') : XJ G (fun z => s.heap.size ≤ z) 4 p l e room_1 s m #[Value.ref b] below meth c 600000 7302250 (lw_Z below #[Value.ref b] s) 166 [some (.inr (99, 0)), some (.inr (0, 0)), some (.inr (24, 0)), some (.inl (nI k))] [] μ := by
  have hbA : ¬ (fun z => s.heap.size ≤ z) b := by show ¬ s.heap.size ≤ b; omega
  have hin1 : vp_in (nI k + 1) L := inL (c := 1) (by omega) hL
  have hin2 : vp_in (nI k + 2) L := inL (c := 2) (by omega) hL
  have hin3 : vp_in (nI k + 3) L := inL (c := 3) (by omega) hL
  have hin4 : vp_in (nI k + 4) L := inL (c := 4) (by omega) hL
  obtain ⟨nt, nc, ni, nd, np, hd⟩ := h.1
  have hxw := hd.xwf
  have hnc := h.2.2.2
  refine xj_aload_n E d_L_law_166 rfl ?_
  refine xj_aload_n E d_L_law_167 rfl ?_
  refine xj_iload_n E d_L_law_168 rfl ?_
  refine xj_iconst (v := 1) E d_L_law_169 (by decide) ?_
  refine xj_iadd E d_L_law_170 ?_
  refine xj_sld E hb99 hX hbl hbA hin1 d_L_law_171 ?_
  refine xj_aload_n E d_L_law_172 rfl ?_
  refine xj_iload_n E d_L_law_173 rfl ?_
  refine xj_iconst (v := 2) E d_L_law_174 (by decide) ?_
  refine xj_iadd E d_L_law_175 ?_
  refine xj_sld E hb99 hX hbl hbA hin2 d_L_law_176 ?_
  refine xj_aload_n E d_L_law_177 rfl ?_
  refine xj_iload_n E d_L_law_178 rfl ?_
  refine xj_iconst (v := 3) E d_L_law_179 (by decide) ?_
  refine xj_iadd E d_L_law_180 ?_
  refine xj_sld E hb99 hX hbl hbA hin3 d_L_law_181 ?_
  refine xj_callV E (k_X9_carry l G hI _ _ _ _ hxw) cw_L_22 cv_X9_carry (by decide) rfl rfl rfl ⟨by decide, by decide⟩ (Nat.le_of_ble_eq_true rfl) d_L_law_182 ⟨Nat.le_of_ble_eq_true rfl, Nat.le_of_ble_eq_true rfl⟩ (fun r182 μ182 ho182 hp182 => ?_)
  have hf := fx_carry hp182
  obtain ⟨x, rfl⟩ := is_carry hp182
  refine xj_st (st' := [.inl x]) rfl ?_
  refine xj_aload_n E d_L_law_185 rfl ?_
  refine xj_aload_n E d_L_law_186 rfl ?_
  refine xj_iload_n E d_L_law_187 rfl ?_
  refine xj_iconst (v := 1) E d_L_law_188 (by decide) ?_
  refine xj_iadd E d_L_law_189 ?_
  refine xj_sld E hb99 hX hbl hbA hin1 d_L_law_190 ?_
  refine xj_aload_n E d_L_law_191 rfl ?_
  refine xj_iload_n E d_L_law_192 rfl ?_
  refine xj_iconst (v := 2) E d_L_law_193 (by decide) ?_
  refine xj_iadd E d_L_law_194 ?_
  refine xj_sld E hb99 hX hbl hbA hin2 d_L_law_195 ?_
  refine xj_aload_n E d_L_law_196 rfl ?_
  refine xj_iload_n E d_L_law_197 rfl ?_
  refine xj_iconst (v := 3) E d_L_law_198 (by decide) ?_
  refine xj_iadd E d_L_law_199 ?_
  refine xj_sld E hb99 hX hbl hbA hin3 d_L_law_200 ?_
  refine xj_callV E (k_X10_carry l G hI _ _ _ nt nc _ (by rw [hf 24 (by omega)]; exact hd.T.2.2.1) hd.T.1 (by rw [hf 24 (by omega)]; exact hd.C.2.2.1) hd.C.1) cw_L_26 cv_X10_carry (by decide) rfl rfl rfl ⟨by decide, by decide⟩ (Nat.le_of_ble_eq_true rfl) d_L_law_201 ⟨Nat.le_of_ble_eq_true rfl, Nat.le_of_ble_eq_true rfl⟩ (fun r201 μ201 ho201 hp201 => ?_)
  obtain ⟨x', e1, rfl, hR⟩ := rel_carry h hd hp182 hp201
  obtain rfl : x = x' := Sum.inl.inj (Option.some.inj e1)
  refine xj_st (st' := [.inl x, .inl x]) rfl ?_
  refine xj_icmp_eq (tgt := 691) E d_L_law_204 (by decide) (fun h204 => ?_) (fun h204 => absurd rfl h204)
  exact hK _ hR

set_option maxRecDepth 100000 in
set_option maxHeartbeats 4000000 in
theorem law_3 {p : Program} {l : Launch} {e : Env} {s : State} {m : MethodId} {below : List Frame} {meth : Method} {c : Code} {b L : Nat} {xs : Nat → Int32} {G : XG} (hI : XI G) (E : XE G (fun z => s.heap.size ≤ z) RL code 4 p s m #[Value.ref b] c) (hb99 : G.2.2.1 99 0 = b) (hX : va_X b L xs s s.heap) (hbl : b < s.heap.size) (hL : L ≤ 2560) {k : Nat} {μ : Mem} (hk : k + 5 ≤ L) (h : REL μ) (hK : ∀ μ', REL μ' → XJ G (fun z => s.heap.size ≤ z) 4 p l e room_1 s m #[Value.ref b] below meth c 600000 7302250 (lw_Z below #[Value.ref b] s) 691 [some (.inr (99, 0)), some (.inr (0, 0)), some (.inr (24, 0)), some (.inl (nI k))] [] μ') : XJ G (fun z => s.heap.size ≤ z) 4 p l e room_1 s m #[Value.ref b] below meth c 600000 7302250 (lw_Z below #[Value.ref b] s) 209 [some (.inr (99, 0)), some (.inr (0, 0)), some (.inr (24, 0)), some (.inl (nI k))] [] μ := by
  have hbA : ¬ (fun z => s.heap.size ≤ z) b := by show ¬ s.heap.size ≤ b; omega
  have hin1 : vp_in (nI k + 1) L := inL (c := 1) (by omega) hL
  have hin2 : vp_in (nI k + 2) L := inL (c := 2) (by omega) hL
  have hin3 : vp_in (nI k + 3) L := inL (c := 3) (by omega) hL
  have hin4 : vp_in (nI k + 4) L := inL (c := 4) (by omega) hL
  obtain ⟨nt, nc, ni, nd, np, hd⟩ := h.1
  have hxw := hd.xwf
  have hnc := h.2.2.2
  refine xj_aload_n E d_L_law_209 rfl ?_
  refine xj_aload_n E d_L_law_210 rfl ?_
  refine xj_iload_n E d_L_law_211 rfl ?_
  refine xj_iconst (v := 1) E d_L_law_212 (by decide) ?_
  refine xj_iadd E d_L_law_213 ?_
  refine xj_sld E hb99 hX hbl hbA hin1 d_L_law_214 ?_
  refine xj_aload_n E d_L_law_215 rfl ?_
  refine xj_iload_n E d_L_law_216 rfl ?_
  refine xj_iconst (v := 2) E d_L_law_217 (by decide) ?_
  refine xj_iadd E d_L_law_218 ?_
  refine xj_sld E hb99 hX hbl hbA hin2 d_L_law_219 ?_
  refine xj_aload_n E d_L_law_220 rfl ?_
  refine xj_iload_n E d_L_law_221 rfl ?_
  refine xj_iconst (v := 3) E d_L_law_222 (by decide) ?_
  refine xj_iadd E d_L_law_223 ?_
  refine xj_sld E hb99 hX hbl hbA hin3 d_L_law_224 ?_
  refine xj_callV E (k_X9_interceptor l G hI _ _ _ _ hxw) cw_L_27 cv_X9_interceptor (by decide) rfl rfl rfl ⟨by decide, by decide⟩ (Nat.le_of_ble_eq_true rfl) d_L_law_225 ⟨Nat.le_of_ble_eq_true rfl, Nat.le_of_ble_eq_true rfl⟩ (fun r225 μ225 ho225 hp225 => ?_)
  have hf := fx_interceptor hp225
  obtain ⟨x, rfl⟩ := is_interceptor hp225
  refine xj_st (st' := [.inl x]) rfl ?_
  refine xj_aload_n E d_L_law_228 rfl ?_
  refine xj_aload_n E d_L_law_229 rfl ?_
  refine xj_iload_n E d_L_law_230 rfl ?_
  refine xj_iconst (v := 1) E d_L_law_231 (by decide) ?_
  refine xj_iadd E d_L_law_232 ?_
  refine xj_sld E hb99 hX hbl hbA hin1 d_L_law_233 ?_
  refine xj_aload_n E d_L_law_234 rfl ?_
  refine xj_iload_n E d_L_law_235 rfl ?_
  refine xj_iconst (v := 2) E d_L_law_236 (by decide) ?_
  refine xj_iadd E d_L_law_237 ?_
  refine xj_sld E hb99 hX hbl hbA hin2 d_L_law_238 ?_
  refine xj_aload_n E d_L_law_239 rfl ?_
  refine xj_iload_n E d_L_law_240 rfl ?_
  refine xj_iconst (v := 3) E d_L_law_241 (by decide) ?_
  refine xj_iadd E d_L_law_242 ?_
  refine xj_sld E hb99 hX hbl hbA hin3 d_L_law_243 ?_
  refine xj_callV E (k_X10_interceptor l G hI _ _ _ ni _ (by rw [hf 24 (by omega)]; exact hd.I.2.2.1) hd.I.1) cw_L_30 cv_X10_interceptor (by decide) rfl rfl rfl ⟨by decide, by decide⟩ (Nat.le_of_ble_eq_true rfl) d_L_law_244 ⟨Nat.le_of_ble_eq_true rfl, Nat.le_of_ble_eq_true rfl⟩ (fun r244 μ244 ho244 hp244 => ?_)
  obtain ⟨x', e1, rfl, hR⟩ := rel_interceptor h hd hp225 hp244
  obtain rfl : x = x' := Sum.inl.inj (Option.some.inj e1)
  refine xj_st (st' := [.inl x, .inl x]) rfl ?_
  refine xj_icmp_eq (tgt := 691) E d_L_law_247 (by decide) (fun h247 => ?_) (fun h247 => absurd rfl h247)
  exact hK _ hR

set_option maxRecDepth 100000 in
set_option maxHeartbeats 4000000 in
theorem law_4 {p : Program} {l : Launch} {e : Env} {s : State} {m : MethodId} {below : List Frame} {meth : Method} {c : Code} {b L : Nat} {xs : Nat → Int32} {G : XG} (hI : XI G) (E : XE G (fun z => s.heap.size ≤ z) RL code 4 p s m #[Value.ref b] c) (hb99 : G.2.2.1 99 0 = b) (hX : va_X b L xs s s.heap) (hbl : b < s.heap.size) (hL : L ≤ 2560) {k : Nat} {μ : Mem} (hk : k + 5 ≤ L) (h : REL μ) (hK : ∀ μ', REL μ' → XJ G (fun z => s.heap.size ≤ z) 4 p l e room_1 s m #[Value.ref b] below meth c 600000 7302250 (lw_Z below #[Value.ref b] s) 691 [some (.inr (99, 0)), some (.inr (0, 0)), some (.inr (24, 0)), some (.inl (nI k))] [] μ') : XJ G (fun z => s.heap.size ≤ z) 4 p l e room_1 s m #[Value.ref b] below meth c 600000 7302250 (lw_Z below #[Value.ref b] s) 252 [some (.inr (99, 0)), some (.inr (0, 0)), some (.inr (24, 0)), some (.inl (nI k))] [] μ := by
  have hbA : ¬ (fun z => s.heap.size ≤ z) b := by show ¬ s.heap.size ≤ b; omega
  have hin1 : vp_in (nI k + 1) L := inL (c := 1) (by omega) hL
  have hin2 : vp_in (nI k + 2) L := inL (c := 2) (by omega) hL
  have hin3 : vp_in (nI k + 3) L := inL (c := 3) (by omega) hL
  have hin4 : vp_in (nI k + 4) L := inL (c := 4) (by omega) hL
  obtain ⟨nt, nc, ni, nd, np, hd⟩ := h.1
  have hxw := hd.xwf
  have hnc := h.2.2.2
  refine xj_aload_n E d_L_law_252 rfl ?_
  refine xj_aload_n E d_L_law_253 rfl ?_
  refine xj_iload_n E d_L_law_254 rfl ?_
  refine xj_iconst (v := 1) E d_L_law_255 (by decide) ?_
  refine xj_iadd E d_L_law_256 ?_
  refine xj_sld E hb99 hX hbl hbA hin1 d_L_law_257 ?_
  refine xj_aload_n E d_L_law_258 rfl ?_
  refine xj_iload_n E d_L_law_259 rfl ?_
  refine xj_iconst (v := 2) E d_L_law_260 (by decide) ?_
  refine xj_iadd E d_L_law_261 ?_
  refine xj_sld E hb99 hX hbl hbA hin2 d_L_law_262 ?_
  refine xj_aload_n E d_L_law_263 rfl ?_
  refine xj_iload_n E d_L_law_264 rfl ?_
  refine xj_iconst (v := 3) E d_L_law_265 (by decide) ?_
  refine xj_iadd E d_L_law_266 ?_
  refine xj_sld E hb99 hX hbl hbA hin3 d_L_law_267 ?_
  refine xj_aload_n E d_L_law_268 rfl ?_
  refine xj_iload_n E d_L_law_269 rfl ?_
  refine xj_iconst (v := 4) E d_L_law_270 (by decide) ?_
  refine xj_iadd E d_L_law_271 ?_
  refine xj_sld E hb99 hX hbl hbA hin4 d_L_law_272 ?_
  refine xj_callV E (k_X9_decorator l G hI _ _ _ _ _ hxw) cw_L_31 cv_X9_decorator (by decide) rfl rfl rfl ⟨by decide, by decide⟩ (Nat.le_of_ble_eq_true rfl) d_L_law_273 ⟨Nat.le_of_ble_eq_true rfl, Nat.le_of_ble_eq_true rfl⟩ (fun r273 μ273 ho273 hp273 => ?_)
  have hf := fx_decorator hp273
  obtain ⟨x, rfl⟩ := is_decorator hp273
  refine xj_st (st' := [.inl x]) rfl ?_
  refine xj_aload_n E d_L_law_276 rfl ?_
  refine xj_aload_n E d_L_law_277 rfl ?_
  refine xj_iload_n E d_L_law_278 rfl ?_
  refine xj_iconst (v := 1) E d_L_law_279 (by decide) ?_
  refine xj_iadd E d_L_law_280 ?_
  refine xj_sld E hb99 hX hbl hbA hin1 d_L_law_281 ?_
  refine xj_aload_n E d_L_law_282 rfl ?_
  refine xj_iload_n E d_L_law_283 rfl ?_
  refine xj_iconst (v := 2) E d_L_law_284 (by decide) ?_
  refine xj_iadd E d_L_law_285 ?_
  refine xj_sld E hb99 hX hbl hbA hin2 d_L_law_286 ?_
  refine xj_aload_n E d_L_law_287 rfl ?_
  refine xj_iload_n E d_L_law_288 rfl ?_
  refine xj_iconst (v := 3) E d_L_law_289 (by decide) ?_
  refine xj_iadd E d_L_law_290 ?_
  refine xj_sld E hb99 hX hbl hbA hin3 d_L_law_291 ?_
  refine xj_aload_n E d_L_law_292 rfl ?_
  refine xj_iload_n E d_L_law_293 rfl ?_
  refine xj_iconst (v := 4) E d_L_law_294 (by decide) ?_
  refine xj_iadd E d_L_law_295 ?_
  refine xj_sld E hb99 hX hbl hbA hin4 d_L_law_296 ?_
  refine xj_callV E (k_X10_decorator l G hI _ _ _ _ nd _ (by rw [hf 24 (by omega)]; exact hd.D.2.2.1) hd.D.1) cw_L_35 cv_X10_decorator (by decide) rfl rfl rfl ⟨by decide, by decide⟩ (Nat.le_of_ble_eq_true rfl) d_L_law_297 ⟨Nat.le_of_ble_eq_true rfl, Nat.le_of_ble_eq_true rfl⟩ (fun r297 μ297 ho297 hp297 => ?_)
  obtain ⟨x', e1, rfl, hR⟩ := rel_decorator h hd hp273 hp297
  obtain rfl : x = x' := Sum.inl.inj (Option.some.inj e1)
  refine xj_st (st' := [.inl x, .inl x]) rfl ?_
  refine xj_icmp_eq (tgt := 691) E d_L_law_300 (by decide) (fun h300 => ?_) (fun h300 => absurd rfl h300)
  exact hK _ hR

set_option maxRecDepth 100000 in
set_option maxHeartbeats 4000000 in
theorem law_5 {p : Program} {l : Launch} {e : Env} {s : State} {m : MethodId} {below : List Frame} {meth : Method} {c : Code} {b L : Nat} {xs : Nat → Int32} {G : XG} (hI : XI G) (E : XE G (fun z => s.heap.size ≤ z) RL code 4 p s m #[Value.ref b] c) (hb99 : G.2.2.1 99 0 = b) (hX : va_X b L xs s s.heap) (hbl : b < s.heap.size) (hL : L ≤ 2560) {k : Nat} {μ : Mem} (hk : k + 5 ≤ L) (h : REL μ) (hK : ∀ μ', REL μ' → XJ G (fun z => s.heap.size ≤ z) 4 p l e room_1 s m #[Value.ref b] below meth c 600000 7302250 (lw_Z below #[Value.ref b] s) 691 [some (.inr (99, 0)), some (.inr (0, 0)), some (.inr (24, 0)), some (.inl (nI k))] [] μ') : XJ G (fun z => s.heap.size ≤ z) 4 p l e room_1 s m #[Value.ref b] below meth c 600000 7302250 (lw_Z below #[Value.ref b] s) 305 [some (.inr (99, 0)), some (.inr (0, 0)), some (.inr (24, 0)), some (.inl (nI k))] [] μ := by
  have hbA : ¬ (fun z => s.heap.size ≤ z) b := by show ¬ s.heap.size ≤ b; omega
  have hin1 : vp_in (nI k + 1) L := inL (c := 1) (by omega) hL
  have hin2 : vp_in (nI k + 2) L := inL (c := 2) (by omega) hL
  have hin3 : vp_in (nI k + 3) L := inL (c := 3) (by omega) hL
  have hin4 : vp_in (nI k + 4) L := inL (c := 4) (by omega) hL
  obtain ⟨nt, nc, ni, nd, np, hd⟩ := h.1
  have hxw := hd.xwf
  have hnc := h.2.2.2
  refine xj_aload_n E d_L_law_305 rfl ?_
  refine xj_aload_n E d_L_law_306 rfl ?_
  refine xj_iload_n E d_L_law_307 rfl ?_
  refine xj_iconst (v := 1) E d_L_law_308 (by decide) ?_
  refine xj_iadd E d_L_law_309 ?_
  refine xj_sld E hb99 hX hbl hbA hin1 d_L_law_310 ?_
  refine xj_callV E (k_X9_component l G hI _ _ hxw) cw_L_36 cv_X9_component (by decide) rfl rfl rfl ⟨by decide, by decide⟩ (Nat.le_of_ble_eq_true rfl) d_L_law_311 ⟨Nat.le_of_ble_eq_true rfl, Nat.le_of_ble_eq_true rfl⟩ (fun r311 μ311 ho311 hp311 => ?_)
  have hf := fx_component hp311
  obtain ⟨x, rfl⟩ := is_component hp311
  refine xj_st (st' := [.inl x]) rfl ?_
  refine xj_aload_n E d_L_law_314 rfl ?_
  refine xj_aload_n E d_L_law_315 rfl ?_
  refine xj_iload_n E d_L_law_316 rfl ?_
  refine xj_iconst (v := 1) E d_L_law_317 (by decide) ?_
  refine xj_iadd E d_L_law_318 ?_
  refine xj_sld E hb99 hX hbl hbA hin1 d_L_law_319 ?_
  refine xj_callV E (k_X10_component l G hI _ np _ (by rw [hf 24 (by omega)]; exact hd.P.2.2.1) hd.P.1) cw_L_40 cv_X10_component (by decide) rfl rfl rfl ⟨by decide, by decide⟩ (Nat.le_of_ble_eq_true rfl) d_L_law_320 ⟨Nat.le_of_ble_eq_true rfl, Nat.le_of_ble_eq_true rfl⟩ (fun r320 μ320 ho320 hp320 => ?_)
  obtain ⟨x', e1, rfl, hR⟩ := rel_component h hd hp311 hp320
  obtain rfl : x = x' := Sum.inl.inj (Option.some.inj e1)
  refine xj_st (st' := [.inl x, .inl x]) rfl ?_
  refine xj_icmp_eq (tgt := 691) E d_L_law_323 (by decide) (fun h323 => ?_) (fun h323 => absurd rfl h323)
  exact hK _ hR

set_option maxRecDepth 100000 in
set_option maxHeartbeats 4000000 in
theorem law_6 {p : Program} {l : Launch} {e : Env} {s : State} {m : MethodId} {below : List Frame} {meth : Method} {c : Code} {b L : Nat} {xs : Nat → Int32} {G : XG} (hI : XI G) (E : XE G (fun z => s.heap.size ≤ z) RL code 4 p s m #[Value.ref b] c) (hb99 : G.2.2.1 99 0 = b) (hX : va_X b L xs s s.heap) (hbl : b < s.heap.size) (hL : L ≤ 2560) {k : Nat} {μ : Mem} (hk : k + 5 ≤ L) (h : REL μ) (hK : ∀ μ', REL μ' → XJ G (fun z => s.heap.size ≤ z) 4 p l e room_1 s m #[Value.ref b] below meth c 600000 7302250 (lw_Z below #[Value.ref b] s) 691 [some (.inr (99, 0)), some (.inr (0, 0)), some (.inr (24, 0)), some (.inl (nI k))] [] μ') : XJ G (fun z => s.heap.size ≤ z) 4 p l e room_1 s m #[Value.ref b] below meth c 600000 7302250 (lw_Z below #[Value.ref b] s) 328 [some (.inr (99, 0)), some (.inr (0, 0)), some (.inr (24, 0)), some (.inl (nI k))] [] μ := by
  have hbA : ¬ (fun z => s.heap.size ≤ z) b := by show ¬ s.heap.size ≤ b; omega
  have hin1 : vp_in (nI k + 1) L := inL (c := 1) (by omega) hL
  have hin2 : vp_in (nI k + 2) L := inL (c := 2) (by omega) hL
  have hin3 : vp_in (nI k + 3) L := inL (c := 3) (by omega) hL
  have hin4 : vp_in (nI k + 4) L := inL (c := 4) (by omega) hL
  obtain ⟨nt, nc, ni, nd, np, hd⟩ := h.1
  have hxw := hd.xwf
  have hnc := h.2.2.2
  refine xj_aload_n E d_L_law_328 rfl ?_
  refine xj_aload_n E d_L_law_329 rfl ?_
  refine xj_iload_n E d_L_law_330 rfl ?_
  refine xj_iconst (v := 1) E d_L_law_331 (by decide) ?_
  refine xj_iadd E d_L_law_332 ?_
  refine xj_sld E hb99 hX hbl hbA hin1 d_L_law_333 ?_
  refine xj_aload_n E d_L_law_334 rfl ?_
  refine xj_iload_n E d_L_law_335 rfl ?_
  refine xj_iconst (v := 2) E d_L_law_336 (by decide) ?_
  refine xj_iadd E d_L_law_337 ?_
  refine xj_sld E hb99 hX hbl hbA hin2 d_L_law_338 ?_
  refine xj_aload_n E d_L_law_339 rfl ?_
  refine xj_iload_n E d_L_law_340 rfl ?_
  refine xj_iconst (v := 3) E d_L_law_341 (by decide) ?_
  refine xj_iadd E d_L_law_342 ?_
  refine xj_sld E hb99 hX hbl hbA hin3 d_L_law_343 ?_
  refine xj_callV E (k_X9_bindInterceptor l G hI _ _ _ _ hxw) cw_L_41 cv_X9_bindInterceptor (by decide) rfl rfl rfl ⟨by decide, by decide⟩ (Nat.le_of_ble_eq_true rfl) d_L_law_344 ⟨Nat.le_of_ble_eq_true rfl, Nat.le_of_ble_eq_true rfl⟩ (fun r344 μ344 ho344 hp344 => ?_)
  have hf := fx_bindInterceptor hp344
  obtain ⟨x, rfl⟩ := is_bindInterceptor hp344
  refine xj_st (st' := [.inl x]) rfl ?_
  refine xj_aload_n E d_L_law_347 rfl ?_
  refine xj_aload_n E d_L_law_348 rfl ?_
  refine xj_iload_n E d_L_law_349 rfl ?_
  refine xj_iconst (v := 1) E d_L_law_350 (by decide) ?_
  refine xj_iadd E d_L_law_351 ?_
  refine xj_sld E hb99 hX hbl hbA hin1 d_L_law_352 ?_
  refine xj_aload_n E d_L_law_353 rfl ?_
  refine xj_iload_n E d_L_law_354 rfl ?_
  refine xj_iconst (v := 2) E d_L_law_355 (by decide) ?_
  refine xj_iadd E d_L_law_356 ?_
  refine xj_sld E hb99 hX hbl hbA hin2 d_L_law_357 ?_
  refine xj_aload_n E d_L_law_358 rfl ?_
  refine xj_iload_n E d_L_law_359 rfl ?_
  refine xj_iconst (v := 3) E d_L_law_360 (by decide) ?_
  refine xj_iadd E d_L_law_361 ?_
  refine xj_sld E hb99 hX hbl hbA hin3 d_L_law_362 ?_
  refine xj_callV E (k_X10_bindInterceptor l G hI _ _ _ nt ni _ (by rw [hf 24 (by omega)]; exact hd.T.2.2.1) hd.T.1 (by rw [hf 24 (by omega)]; exact hd.I.2.2.1) hd.I.1 (fun i hi => by rw [hf.d.nb, hf 49 (by omega)]; exact ((hd.R.1 i hi).m hd.T.1).1)) cw_L_44 cv_X10_bindInterceptor (by decide) rfl rfl rfl ⟨by decide, by decide⟩ (Nat.le_of_ble_eq_true rfl) d_L_law_363 ⟨Nat.le_of_ble_eq_true rfl, Nat.le_of_ble_eq_true rfl⟩ (fun r363 μ363 ho363 hp363 => ?_)
  obtain ⟨x', e1, rfl, hR⟩ := rel_bindInterceptor h hd hp344 hp363
  obtain rfl : x = x' := Sum.inl.inj (Option.some.inj e1)
  refine xj_st (st' := [.inl x, .inl x]) rfl ?_
  refine xj_icmp_eq (tgt := 691) E d_L_law_366 (by decide) (fun h366 => ?_) (fun h366 => absurd rfl h366)
  exact hK _ hR

set_option maxRecDepth 100000 in
set_option maxHeartbeats 4000000 in
theorem law_7 {p : Program} {l : Launch} {e : Env} {s : State} {m : MethodId} {below : List Frame} {meth : Method} {c : Code} {b L : Nat} {xs : Nat → Int32} {G : XG} (hI : XI G) (E : XE G (fun z => s.heap.size ≤ z) RL code 4 p s m #[Value.ref b] c) (hb99 : G.2.2.1 99 0 = b) (hX : va_X b L xs s s.heap) (hbl : b < s.heap.size) (hL : L ≤ 2560) {k : Nat} {μ : Mem} (hk : k + 5 ≤ L) (h : REL μ) (hK : ∀ μ', REL μ' → XJ G (fun z => s.heap.size ≤ z) 4 p l e room_1 s m #[Value.ref b] below meth c 600000 7302250 (lw_Z below #[Value.ref b] s) 691 [some (.inr (99, 0)), some (.inr (0, 0)), some (.inr (24, 0)), some (.inl (nI k))] [] μ') : XJ G (fun z => s.heap.size ≤ z) 4 p l e room_1 s m #[Value.ref b] below meth c 600000 7302250 (lw_Z below #[Value.ref b] s) 371 [some (.inr (99, 0)), some (.inr (0, 0)), some (.inr (24, 0)), some (.inl (nI k))] [] μ := by
  have hbA : ¬ (fun z => s.heap.size ≤ z) b := by show ¬ s.heap.size ≤ b; omega
  have hin1 : vp_in (nI k + 1) L := inL (c := 1) (by omega) hL
  have hin2 : vp_in (nI k + 2) L := inL (c := 2) (by omega) hL
  have hin3 : vp_in (nI k + 3) L := inL (c := 3) (by omega) hL
  have hin4 : vp_in (nI k + 4) L := inL (c := 4) (by omega) hL
  obtain ⟨nt, nc, ni, nd, np, hd⟩ := h.1
  have hxw := hd.xwf
  have hnc := h.2.2.2
  refine xj_aload_n E d_L_law_371 rfl ?_
  refine xj_aload_n E d_L_law_372 rfl ?_
  refine xj_iload_n E d_L_law_373 rfl ?_
  refine xj_iconst (v := 1) E d_L_law_374 (by decide) ?_
  refine xj_iadd E d_L_law_375 ?_
  refine xj_sld E hb99 hX hbl hbA hin1 d_L_law_376 ?_
  refine xj_aload_n E d_L_law_377 rfl ?_
  refine xj_iload_n E d_L_law_378 rfl ?_
  refine xj_iconst (v := 2) E d_L_law_379 (by decide) ?_
  refine xj_iadd E d_L_law_380 ?_
  refine xj_sld E hb99 hX hbl hbA hin2 d_L_law_381 ?_
  refine xj_aload_n E d_L_law_382 rfl ?_
  refine xj_iload_n E d_L_law_383 rfl ?_
  refine xj_iconst (v := 3) E d_L_law_384 (by decide) ?_
  refine xj_iadd E d_L_law_385 ?_
  refine xj_sld E hb99 hX hbl hbA hin3 d_L_law_386 ?_
  refine xj_aload_n E d_L_law_387 rfl ?_
  refine xj_iload_n E d_L_law_388 rfl ?_
  refine xj_iconst (v := 4) E d_L_law_389 (by decide) ?_
  refine xj_iadd E d_L_law_390 ?_
  refine xj_sld E hb99 hX hbl hbA hin4 d_L_law_391 ?_
  refine xj_callV E (k_X9_bind l G hI _ _ _ _ _ hxw) cw_L_45 cv_X9_bind (by decide) rfl rfl rfl ⟨by decide, by decide⟩ (Nat.le_of_ble_eq_true rfl) d_L_law_392 ⟨Nat.le_of_ble_eq_true rfl, Nat.le_of_ble_eq_true rfl⟩ (fun r392 μ392 ho392 hp392 => ?_)
  have hf := fx_bind hp392
  obtain ⟨x, rfl⟩ := is_bind hp392
  refine xj_st (st' := [.inl x]) rfl ?_
  refine xj_aload_n E d_L_law_395 rfl ?_
  refine xj_aload_n E d_L_law_396 rfl ?_
  refine xj_iload_n E d_L_law_397 rfl ?_
  refine xj_iconst (v := 1) E d_L_law_398 (by decide) ?_
  refine xj_iadd E d_L_law_399 ?_
  refine xj_sld E hb99 hX hbl hbA hin1 d_L_law_400 ?_
  refine xj_aload_n E d_L_law_401 rfl ?_
  refine xj_iload_n E d_L_law_402 rfl ?_
  refine xj_iconst (v := 2) E d_L_law_403 (by decide) ?_
  refine xj_iadd E d_L_law_404 ?_
  refine xj_sld E hb99 hX hbl hbA hin2 d_L_law_405 ?_
  refine xj_aload_n E d_L_law_406 rfl ?_
  refine xj_iload_n E d_L_law_407 rfl ?_
  refine xj_iconst (v := 3) E d_L_law_408 (by decide) ?_
  refine xj_iadd E d_L_law_409 ?_
  refine xj_sld E hb99 hX hbl hbA hin3 d_L_law_410 ?_
  refine xj_aload_n E d_L_law_411 rfl ?_
  refine xj_iload_n E d_L_law_412 rfl ?_
  refine xj_iconst (v := 4) E d_L_law_413 (by decide) ?_
  refine xj_iadd E d_L_law_414 ?_
  refine xj_sld E hb99 hX hbl hbA hin4 d_L_law_415 ?_
  refine xj_callV E (k_X10_bind l G hI _ _ _ _ nt np _ (by rw [hf 24 (by omega)]; exact hd.T.2.2.1) hd.T.1 (by rw [hf 24 (by omega)]; exact hd.P.2.2.1) hd.P.1 (fun q hq => by rw [hf.d.nb, hf 49 (by omega)]; exact ((hd.R.2 q hq).1.m hd.T.1).1)) cw_L_48 cv_X10_bind (by decide) rfl rfl rfl ⟨by decide, by decide⟩ (Nat.le_of_ble_eq_true rfl) d_L_law_416 ⟨Nat.le_of_ble_eq_true rfl, Nat.le_of_ble_eq_true rfl⟩ (fun r416 μ416 ho416 hp416 => ?_)
  obtain ⟨x', e1, rfl, hR⟩ := rel_bind h hd hp392 hp416
  obtain rfl : x = x' := Sum.inl.inj (Option.some.inj e1)
  refine xj_st (st' := [.inl x, .inl x]) rfl ?_
  refine xj_icmp_eq (tgt := 691) E d_L_law_419 (by decide) (fun h419 => ?_) (fun h419 => absurd rfl h419)
  exact hK _ hR

set_option maxRecDepth 100000 in
set_option maxHeartbeats 4000000 in
theorem law_8 {p : Program} {l : Launch} {e : Env} {s : State} {m : MethodId} {below : List Frame} {meth : Method} {c : Code} {b L : Nat} {xs : Nat → Int32} {G : XG} (hI : XI G) (E : XE G (fun z => s.heap.size ≤ z) RL code 4 p s m #[Value.ref b] c) (hb99 : G.2.2.1 99 0 = b) (hX : va_X b L xs s s.heap) (hbl : b < s.heap.size) (hL : L ≤ 2560) {k : Nat} {μ : Mem} (hk : k + 5 ≤ L) (h : REL μ) (hK : ∀ μ', REL μ' → XJ G (fun z => s.heap.size ≤ z) 4 p l e room_1 s m #[Value.ref b] below meth c 600000 7302250 (lw_Z below #[Value.ref b] s) 691 [some (.inr (99, 0)), some (.inr (0, 0)), some (.inr (24, 0)), some (.inl (nI k))] [] μ') : XJ G (fun z => s.heap.size ≤ z) 4 p l e room_1 s m #[Value.ref b] below meth c 600000 7302250 (lw_Z below #[Value.ref b] s) 424 [some (.inr (99, 0)), some (.inr (0, 0)), some (.inr (24, 0)), some (.inl (nI k))] [] μ := by
  have hbA : ¬ (fun z => s.heap.size ≤ z) b := by show ¬ s.heap.size ≤ b; omega
  have hin1 : vp_in (nI k + 1) L := inL (c := 1) (by omega) hL
  have hin2 : vp_in (nI k + 2) L := inL (c := 2) (by omega) hL
  have hin3 : vp_in (nI k + 3) L := inL (c := 3) (by omega) hL
  have hin4 : vp_in (nI k + 4) L := inL (c := 4) (by omega) hL
  obtain ⟨nt, nc, ni, nd, np, hd⟩ := h.1
  have hxw := hd.xwf
  have hnc := h.2.2.2
  refine xj_aload_n E d_L_law_424 rfl ?_
  refine xj_aload_n E d_L_law_425 rfl ?_
  refine xj_iload_n E d_L_law_426 rfl ?_
  refine xj_iconst (v := 1) E d_L_law_427 (by decide) ?_
  refine xj_iadd E d_L_law_428 ?_
  refine xj_sld E hb99 hX hbl hbA hin1 d_L_law_429 ?_
  refine xj_aload_n E d_L_law_430 rfl ?_
  refine xj_iload_n E d_L_law_431 rfl ?_
  refine xj_iconst (v := 2) E d_L_law_432 (by decide) ?_
  refine xj_iadd E d_L_law_433 ?_
  refine xj_sld E hb99 hX hbl hbA hin2 d_L_law_434 ?_
  refine xj_aload_n E d_L_law_435 rfl ?_
  refine xj_iload_n E d_L_law_436 rfl ?_
  refine xj_iconst (v := 3) E d_L_law_437 (by decide) ?_
  refine xj_iadd E d_L_law_438 ?_
  refine xj_sld E hb99 hX hbl hbA hin3 d_L_law_439 ?_
  refine xj_callV E (k_X9_list l G hI _ _ _ _ hxw) cw_L_49 cv_X9_list (by decide) rfl rfl rfl ⟨by decide, by decide⟩ (Nat.le_of_ble_eq_true rfl) d_L_law_440 ⟨Nat.le_of_ble_eq_true rfl, Nat.le_of_ble_eq_true rfl⟩ (fun r440 μ440 ho440 hp440 => ?_)
  have hf := fx_list hp440
  obtain ⟨x, rfl⟩ := is_list hp440
  refine xj_st (st' := [.inl x]) rfl ?_
  refine xj_aload_n E d_L_law_443 rfl ?_
  refine xj_aload_n E d_L_law_444 rfl ?_
  refine xj_iload_n E d_L_law_445 rfl ?_
  refine xj_iconst (v := 1) E d_L_law_446 (by decide) ?_
  refine xj_iadd E d_L_law_447 ?_
  refine xj_sld E hb99 hX hbl hbA hin1 d_L_law_448 ?_
  refine xj_aload_n E d_L_law_449 rfl ?_
  refine xj_iload_n E d_L_law_450 rfl ?_
  refine xj_iconst (v := 2) E d_L_law_451 (by decide) ?_
  refine xj_iadd E d_L_law_452 ?_
  refine xj_sld E hb99 hX hbl hbA hin2 d_L_law_453 ?_
  refine xj_aload_n E d_L_law_454 rfl ?_
  refine xj_iload_n E d_L_law_455 rfl ?_
  refine xj_iconst (v := 3) E d_L_law_456 (by decide) ?_
  refine xj_iadd E d_L_law_457 ?_
  refine xj_sld E hb99 hX hbl hbA hin3 d_L_law_458 ?_
  refine xj_callV E (k_X10_list l G hI _ _ _ ni np _ (by rw [hf 24 (by omega)]; exact hd.I.2.2.1) hd.I.1 (by rw [hf 24 (by omega)]; exact hd.P.2.2.1) hd.P.1 (fun q hq => by rw [hf.d.nl, hf 52 (by omega)]; exact (hd.mwf.2.2.2.2.2 q (by rw [hd.wP]; exact hq)).2.1)) cw_L_52 cv_X10_list (by decide) rfl rfl rfl ⟨by decide, by decide⟩ (Nat.le_of_ble_eq_true rfl) d_L_law_459 ⟨Nat.le_of_ble_eq_true rfl, Nat.le_of_ble_eq_true rfl⟩ (fun r459 μ459 ho459 hp459 => ?_)
  obtain ⟨x', e1, rfl, hR⟩ := rel_list h hd hp440 hp459
  obtain rfl : x = x' := Sum.inl.inj (Option.some.inj e1)
  refine xj_st (st' := [.inl x, .inl x]) rfl ?_
  refine xj_icmp_eq (tgt := 691) E d_L_law_462 (by decide) (fun h462 => ?_) (fun h462 => absurd rfl h462)
  exact hK _ hR

set_option maxRecDepth 100000 in
set_option maxHeartbeats 4000000 in
theorem law_9 {p : Program} {l : Launch} {e : Env} {s : State} {m : MethodId} {below : List Frame} {meth : Method} {c : Code} {b L : Nat} {xs : Nat → Int32} {G : XG} (hI : XI G) (E : XE G (fun z => s.heap.size ≤ z) RL code 4 p s m #[Value.ref b] c) (hb99 : G.2.2.1 99 0 = b) (hX : va_X b L xs s s.heap) (hbl : b < s.heap.size) (hL : L ≤ 2560) {k : Nat} {μ : Mem} (hk : k + 5 ≤ L) (h : REL μ) (hK : ∀ μ', REL μ' → XJ G (fun z => s.heap.size ≤ z) 4 p l e room_1 s m #[Value.ref b] below meth c 600000 7302250 (lw_Z below #[Value.ref b] s) 691 [some (.inr (99, 0)), some (.inr (0, 0)), some (.inr (24, 0)), some (.inl (nI k))] [] μ') : XJ G (fun z => s.heap.size ≤ z) 4 p l e room_1 s m #[Value.ref b] below meth c 600000 7302250 (lw_Z below #[Value.ref b] s) 467 [some (.inr (99, 0)), some (.inr (0, 0)), some (.inr (24, 0)), some (.inl (nI k))] [] μ := by
  have hbA : ¬ (fun z => s.heap.size ≤ z) b := by show ¬ s.heap.size ≤ b; omega
  have hin1 : vp_in (nI k + 1) L := inL (c := 1) (by omega) hL
  have hin2 : vp_in (nI k + 2) L := inL (c := 2) (by omega) hL
  have hin3 : vp_in (nI k + 3) L := inL (c := 3) (by omega) hL
  have hin4 : vp_in (nI k + 4) L := inL (c := 4) (by omega) hL
  obtain ⟨nt, nc, ni, nd, np, hd⟩ := h.1
  have hxw := hd.xwf
  have hnc := h.2.2.2
  refine xj_aload_n E d_L_law_467 rfl ?_
  refine xj_aload_n E d_L_law_468 rfl ?_
  refine xj_iload_n E d_L_law_469 rfl ?_
  refine xj_iconst (v := 1) E d_L_law_470 (by decide) ?_
  refine xj_iadd E d_L_law_471 ?_
  refine xj_sld E hb99 hX hbl hbA hin1 d_L_law_472 ?_
  refine xj_aload_n E d_L_law_473 rfl ?_
  refine xj_iload_n E d_L_law_474 rfl ?_
  refine xj_iconst (v := 2) E d_L_law_475 (by decide) ?_
  refine xj_iadd E d_L_law_476 ?_
  refine xj_sld E hb99 hX hbl hbA hin2 d_L_law_477 ?_
  refine xj_aload_n E d_L_law_478 rfl ?_
  refine xj_iload_n E d_L_law_479 rfl ?_
  refine xj_iconst (v := 3) E d_L_law_480 (by decide) ?_
  refine xj_iadd E d_L_law_481 ?_
  refine xj_sld E hb99 hX hbl hbA hin3 d_L_law_482 ?_
  refine xj_callV E (k_X9_flags l G hI _ _ _ _ hxw) cw_L_53 cv_X9_flags (by decide) rfl rfl rfl ⟨by decide, by decide⟩ (Nat.le_of_ble_eq_true rfl) d_L_law_483 ⟨Nat.le_of_ble_eq_true rfl, Nat.le_of_ble_eq_true rfl⟩ (fun r483 μ483 ho483 hp483 => ?_)
  have hf := fx_flags hp483
  obtain ⟨x, rfl⟩ := is_flags hp483
  refine xj_st (st' := [.inl x]) rfl ?_
  refine xj_aload_n E d_L_law_486 rfl ?_
  refine xj_aload_n E d_L_law_487 rfl ?_
  refine xj_iload_n E d_L_law_488 rfl ?_
  refine xj_iconst (v := 1) E d_L_law_489 (by decide) ?_
  refine xj_iadd E d_L_law_490 ?_
  refine xj_sld E hb99 hX hbl hbA hin1 d_L_law_491 ?_
  refine xj_aload_n E d_L_law_492 rfl ?_
  refine xj_iload_n E d_L_law_493 rfl ?_
  refine xj_iconst (v := 2) E d_L_law_494 (by decide) ?_
  refine xj_iadd E d_L_law_495 ?_
  refine xj_sld E hb99 hX hbl hbA hin2 d_L_law_496 ?_
  refine xj_aload_n E d_L_law_497 rfl ?_
  refine xj_iload_n E d_L_law_498 rfl ?_
  refine xj_iconst (v := 3) E d_L_law_499 (by decide) ?_
  refine xj_iadd E d_L_law_500 ?_
  refine xj_sld E hb99 hX hbl hbA hin3 d_L_law_501 ?_
  refine xj_callV E (k_X10_flags l G hI _ _ _ np _ (by rw [hf 24 (by omega)]; exact hd.P.2.2.1) hd.P.1) cw_L_56 cv_X10_flags (by decide) rfl rfl rfl ⟨by decide, by decide⟩ (Nat.le_of_ble_eq_true rfl) d_L_law_502 ⟨Nat.le_of_ble_eq_true rfl, Nat.le_of_ble_eq_true rfl⟩ (fun r502 μ502 ho502 hp502 => ?_)
  obtain ⟨x', e1, rfl, hR⟩ := rel_flags h hd hp483 hp502
  obtain rfl : x = x' := Sum.inl.inj (Option.some.inj e1)
  refine xj_st (st' := [.inl x, .inl x]) rfl ?_
  refine xj_icmp_eq (tgt := 691) E d_L_law_505 (by decide) (fun h505 => ?_) (fun h505 => absurd rfl h505)
  exact hK _ hR

set_option maxRecDepth 100000 in
set_option maxHeartbeats 4000000 in
theorem law_10 {p : Program} {l : Launch} {e : Env} {s : State} {m : MethodId} {below : List Frame} {meth : Method} {c : Code} {b L : Nat} {xs : Nat → Int32} {G : XG} (hI : XI G) (E : XE G (fun z => s.heap.size ≤ z) RL code 4 p s m #[Value.ref b] c) (hb99 : G.2.2.1 99 0 = b) (hX : va_X b L xs s s.heap) (hbl : b < s.heap.size) (hL : L ≤ 2560) {k : Nat} {μ : Mem} (hk : k + 5 ≤ L) (h : REL μ) (hK : ∀ μ', REL μ' → XJ G (fun z => s.heap.size ≤ z) 4 p l e room_1 s m #[Value.ref b] below meth c 600000 7302250 (lw_Z below #[Value.ref b] s) 691 [some (.inr (99, 0)), some (.inr (0, 0)), some (.inr (24, 0)), some (.inl (nI k))] [] μ') : XJ G (fun z => s.heap.size ≤ z) 4 p l e room_1 s m #[Value.ref b] below meth c 600000 7302250 (lw_Z below #[Value.ref b] s) 510 [some (.inr (99, 0)), some (.inr (0, 0)), some (.inr (24, 0)), some (.inl (nI k))] [] μ := by
  have hbA : ¬ (fun z => s.heap.size ≤ z) b := by show ¬ s.heap.size ≤ b; omega
  have hin1 : vp_in (nI k + 1) L := inL (c := 1) (by omega) hL
  have hin2 : vp_in (nI k + 2) L := inL (c := 2) (by omega) hL
  have hin3 : vp_in (nI k + 3) L := inL (c := 3) (by omega) hL
  have hin4 : vp_in (nI k + 4) L := inL (c := 4) (by omega) hL
  obtain ⟨nt, nc, ni, nd, np, hd⟩ := h.1
  have hxw := hd.xwf
  have hnc := h.2.2.2
  refine xj_aload_n E d_L_law_510 rfl ?_
  refine xj_callV E (k_X9_deploy l G hI _ hxw) cw_L_57 cv_X9_deploy (by decide) rfl rfl rfl ⟨by decide, by decide⟩ (Nat.le_of_ble_eq_true rfl) d_L_law_511 ⟨Nat.le_of_ble_eq_true rfl, Nat.le_of_ble_eq_true rfl⟩ (fun r511 μ511 ho511 hp511 => ?_)
  have hf := fx_deploy hp511
  obtain ⟨x, rfl⟩ := is_deploy hp511
  refine xj_st (st' := [.inl x]) rfl ?_
  refine xj_aload_n E d_L_law_514 rfl ?_
  refine xj_callV E (k_X10_deploy l G hI  _ (hf.d.wf hd.mwf)) cw_L_61 cv_X10_deploy (by decide) rfl rfl rfl ⟨by decide, by decide⟩ (Nat.le_of_ble_eq_true rfl) d_L_law_515 ⟨Nat.le_of_ble_eq_true rfl, Nat.le_of_ble_eq_true rfl⟩ (fun r515 μ515 ho515 hp515 => ?_)
  obtain ⟨x', e1, rfl, hR⟩ := rel_deploy (dummy := 0) h hd hp511 hp515
  obtain rfl : x = x' := Sum.inl.inj (Option.some.inj e1)
  refine xj_st (st' := [.inl x, .inl x]) rfl ?_
  refine xj_icmp_eq (tgt := 691) E d_L_law_518 (by decide) (fun h518 => ?_) (fun h518 => absurd rfl h518)
  exact hK _ hR

set_option maxRecDepth 100000 in
set_option maxHeartbeats 4000000 in
theorem law_11 {p : Program} {l : Launch} {e : Env} {s : State} {m : MethodId} {below : List Frame} {meth : Method} {c : Code} {b L : Nat} {xs : Nat → Int32} {G : XG} (hI : XI G) (E : XE G (fun z => s.heap.size ≤ z) RL code 4 p s m #[Value.ref b] c) (hb99 : G.2.2.1 99 0 = b) (hX : va_X b L xs s s.heap) (hbl : b < s.heap.size) (hL : L ≤ 2560) {k : Nat} {μ : Mem} (hk : k + 5 ≤ L) (h : REL μ) (hK : ∀ μ', REL μ' → XJ G (fun z => s.heap.size ≤ z) 4 p l e room_1 s m #[Value.ref b] below meth c 600000 7302250 (lw_Z below #[Value.ref b] s) 691 [some (.inr (99, 0)), some (.inr (0, 0)), some (.inr (24, 0)), some (.inl (nI k))] [] μ') : XJ G (fun z => s.heap.size ≤ z) 4 p l e room_1 s m #[Value.ref b] below meth c 600000 7302250 (lw_Z below #[Value.ref b] s) 523 [some (.inr (99, 0)), some (.inr (0, 0)), some (.inr (24, 0)), some (.inl (nI k))] [] μ := by
  have hbA : ¬ (fun z => s.heap.size ≤ z) b := by show ¬ s.heap.size ≤ b; omega
  have hin1 : vp_in (nI k + 1) L := inL (c := 1) (by omega) hL
  have hin2 : vp_in (nI k + 2) L := inL (c := 2) (by omega) hL
  have hin3 : vp_in (nI k + 3) L := inL (c := 3) (by omega) hL
  have hin4 : vp_in (nI k + 4) L := inL (c := 4) (by omega) hL
  obtain ⟨nt, nc, ni, nd, np, hd⟩ := h.1
  have hxw := hd.xwf
  have hnc := h.2.2.2
  refine xj_aload_n E d_L_law_523 rfl ?_
  refine xj_aload_n E d_L_law_524 rfl ?_
  refine xj_iload_n E d_L_law_525 rfl ?_
  refine xj_iconst (v := 1) E d_L_law_526 (by decide) ?_
  refine xj_iadd E d_L_law_527 ?_
  refine xj_sld E hb99 hX hbl hbA hin1 d_L_law_528 ?_
  refine xj_aload_n E d_L_law_529 rfl ?_
  refine xj_iload_n E d_L_law_530 rfl ?_
  refine xj_iconst (v := 2) E d_L_law_531 (by decide) ?_
  refine xj_iadd E d_L_law_532 ?_
  refine xj_sld E hb99 hX hbl hbA hin2 d_L_law_533 ?_
  refine xj_callV E (k_X9_length l G hI _ _ _ hxw hnc) cw_L_62 cv_X9_length (by decide) rfl rfl rfl ⟨by decide, by decide⟩ (Nat.le_of_ble_eq_true rfl) d_L_law_534 ⟨Nat.le_of_ble_eq_true rfl, Nat.le_of_ble_eq_true rfl⟩ (fun r534 μ534 ho534 hp534 => ?_)
  have hf := fx_length hp534
  obtain ⟨x, rfl⟩ := is_length hp534
  refine xj_st (st' := [.inl x]) rfl ?_
  refine xj_aload_n E d_L_law_537 rfl ?_
  refine xj_aload_n E d_L_law_538 rfl ?_
  refine xj_iload_n E d_L_law_539 rfl ?_
  refine xj_iconst (v := 1) E d_L_law_540 (by decide) ?_
  refine xj_iadd E d_L_law_541 ?_
  refine xj_sld E hb99 hX hbl hbA hin1 d_L_law_542 ?_
  refine xj_aload_n E d_L_law_543 rfl ?_
  refine xj_iload_n E d_L_law_544 rfl ?_
  refine xj_iconst (v := 2) E d_L_law_545 (by decide) ?_
  refine xj_iadd E d_L_law_546 ?_
  refine xj_sld E hb99 hX hbl hbA hin2 d_L_law_547 ?_
  refine xj_callV E (k_X10_length l G hI _ _  _ (hf.d.wf hd.mwf)) cw_L_66 cv_X10_length (by decide) rfl rfl rfl ⟨by decide, by decide⟩ (Nat.le_of_ble_eq_true rfl) d_L_law_548 ⟨Nat.le_of_ble_eq_true rfl, Nat.le_of_ble_eq_true rfl⟩ (fun r548 μ548 ho548 hp548 => ?_)
  obtain ⟨x', e1, rfl, hR⟩ := rel_length h hd hp534 hp548
  obtain rfl : x = x' := Sum.inl.inj (Option.some.inj e1)
  refine xj_st (st' := [.inl x, .inl x]) rfl ?_
  refine xj_icmp_eq (tgt := 691) E d_L_law_551 (by decide) (fun h551 => ?_) (fun h551 => absurd rfl h551)
  exact hK _ hR

set_option maxRecDepth 100000 in
set_option maxHeartbeats 4000000 in
theorem law_12 {p : Program} {l : Launch} {e : Env} {s : State} {m : MethodId} {below : List Frame} {meth : Method} {c : Code} {b L : Nat} {xs : Nat → Int32} {G : XG} (hI : XI G) (E : XE G (fun z => s.heap.size ≤ z) RL code 4 p s m #[Value.ref b] c) (hb99 : G.2.2.1 99 0 = b) (hX : va_X b L xs s s.heap) (hbl : b < s.heap.size) (hL : L ≤ 2560) {k : Nat} {μ : Mem} (hk : k + 5 ≤ L) (h : REL μ) (hK : ∀ μ', REL μ' → XJ G (fun z => s.heap.size ≤ z) 4 p l e room_1 s m #[Value.ref b] below meth c 600000 7302250 (lw_Z below #[Value.ref b] s) 691 [some (.inr (99, 0)), some (.inr (0, 0)), some (.inr (24, 0)), some (.inl (nI k))] [] μ') : XJ G (fun z => s.heap.size ≤ z) 4 p l e room_1 s m #[Value.ref b] below meth c 600000 7302250 (lw_Z below #[Value.ref b] s) 556 [some (.inr (99, 0)), some (.inr (0, 0)), some (.inr (24, 0)), some (.inl (nI k))] [] μ := by
  have hbA : ¬ (fun z => s.heap.size ≤ z) b := by show ¬ s.heap.size ≤ b; omega
  have hin1 : vp_in (nI k + 1) L := inL (c := 1) (by omega) hL
  have hin2 : vp_in (nI k + 2) L := inL (c := 2) (by omega) hL
  have hin3 : vp_in (nI k + 3) L := inL (c := 3) (by omega) hL
  have hin4 : vp_in (nI k + 4) L := inL (c := 4) (by omega) hL
  obtain ⟨nt, nc, ni, nd, np, hd⟩ := h.1
  have hxw := hd.xwf
  have hnc := h.2.2.2
  refine xj_aload_n E d_L_law_556 rfl ?_
  refine xj_aload_n E d_L_law_557 rfl ?_
  refine xj_iload_n E d_L_law_558 rfl ?_
  refine xj_iconst (v := 1) E d_L_law_559 (by decide) ?_
  refine xj_iadd E d_L_law_560 ?_
  refine xj_sld E hb99 hX hbl hbA hin1 d_L_law_561 ?_
  refine xj_aload_n E d_L_law_562 rfl ?_
  refine xj_iload_n E d_L_law_563 rfl ?_
  refine xj_iconst (v := 2) E d_L_law_564 (by decide) ?_
  refine xj_iadd E d_L_law_565 ?_
  refine xj_sld E hb99 hX hbl hbA hin2 d_L_law_566 ?_
  refine xj_aload_n E d_L_law_567 rfl ?_
  refine xj_iload_n E d_L_law_568 rfl ?_
  refine xj_iconst (v := 3) E d_L_law_569 (by decide) ?_
  refine xj_iadd E d_L_law_570 ?_
  refine xj_sld E hb99 hX hbl hbA hin3 d_L_law_571 ?_
  refine xj_callV E (k_X9_element l G hI _ _ _ _ hxw hnc) cw_L_67 cv_X9_element (by decide) rfl rfl rfl ⟨by decide, by decide⟩ (Nat.le_of_ble_eq_true rfl) d_L_law_572 ⟨Nat.le_of_ble_eq_true rfl, Nat.le_of_ble_eq_true rfl⟩ (fun r572 μ572 ho572 hp572 => ?_)
  have hf := fx_element hp572
  obtain ⟨x, rfl⟩ := is_element hp572
  refine xj_st (st' := [.inl x]) rfl ?_
  refine xj_aload_n E d_L_law_575 rfl ?_
  refine xj_aload_n E d_L_law_576 rfl ?_
  refine xj_iload_n E d_L_law_577 rfl ?_
  refine xj_iconst (v := 1) E d_L_law_578 (by decide) ?_
  refine xj_iadd E d_L_law_579 ?_
  refine xj_sld E hb99 hX hbl hbA hin1 d_L_law_580 ?_
  refine xj_aload_n E d_L_law_581 rfl ?_
  refine xj_iload_n E d_L_law_582 rfl ?_
  refine xj_iconst (v := 2) E d_L_law_583 (by decide) ?_
  refine xj_iadd E d_L_law_584 ?_
  refine xj_sld E hb99 hX hbl hbA hin2 d_L_law_585 ?_
  refine xj_aload_n E d_L_law_586 rfl ?_
  refine xj_iload_n E d_L_law_587 rfl ?_
  refine xj_iconst (v := 3) E d_L_law_588 (by decide) ?_
  refine xj_iadd E d_L_law_589 ?_
  refine xj_sld E hb99 hX hbl hbA hin3 d_L_law_590 ?_
  refine xj_callV E (k_X10_element l G hI _ _ _  _ (hf.d.wf hd.mwf)) cw_L_70 cv_X10_element (by decide) rfl rfl rfl ⟨by decide, by decide⟩ (Nat.le_of_ble_eq_true rfl) d_L_law_591 ⟨Nat.le_of_ble_eq_true rfl, Nat.le_of_ble_eq_true rfl⟩ (fun r591 μ591 ho591 hp591 => ?_)
  obtain ⟨x', e1, rfl, hR⟩ := rel_element h hd hp572 hp591
  obtain rfl : x = x' := Sum.inl.inj (Option.some.inj e1)
  refine xj_st (st' := [.inl x, .inl x]) rfl ?_
  refine xj_icmp_eq (tgt := 691) E d_L_law_594 (by decide) (fun h594 => ?_) (fun h594 => absurd rfl h594)
  exact hK _ hR

set_option maxRecDepth 100000 in
set_option maxHeartbeats 4000000 in
theorem law_13 {p : Program} {l : Launch} {e : Env} {s : State} {m : MethodId} {below : List Frame} {meth : Method} {c : Code} {b L : Nat} {xs : Nat → Int32} {G : XG} (hI : XI G) (E : XE G (fun z => s.heap.size ≤ z) RL code 4 p s m #[Value.ref b] c) (hb99 : G.2.2.1 99 0 = b) (hX : va_X b L xs s s.heap) (hbl : b < s.heap.size) (hL : L ≤ 2560) {k : Nat} {μ : Mem} (hk : k + 5 ≤ L) (h : REL μ) (hK : ∀ μ', REL μ' → XJ G (fun z => s.heap.size ≤ z) 4 p l e room_1 s m #[Value.ref b] below meth c 600000 7302250 (lw_Z below #[Value.ref b] s) 691 [some (.inr (99, 0)), some (.inr (0, 0)), some (.inr (24, 0)), some (.inl (nI k))] [] μ') : XJ G (fun z => s.heap.size ≤ z) 4 p l e room_1 s m #[Value.ref b] below meth c 600000 7302250 (lw_Z below #[Value.ref b] s) 599 [some (.inr (99, 0)), some (.inr (0, 0)), some (.inr (24, 0)), some (.inl (nI k))] [] μ := by
  have hbA : ¬ (fun z => s.heap.size ≤ z) b := by show ¬ s.heap.size ≤ b; omega
  have hin1 : vp_in (nI k + 1) L := inL (c := 1) (by omega) hL
  have hin2 : vp_in (nI k + 2) L := inL (c := 2) (by omega) hL
  have hin3 : vp_in (nI k + 3) L := inL (c := 3) (by omega) hL
  have hin4 : vp_in (nI k + 4) L := inL (c := 4) (by omega) hL
  obtain ⟨nt, nc, ni, nd, np, hd⟩ := h.1
  have hxw := hd.xwf
  have hnc := h.2.2.2
  refine xj_aload_n E d_L_law_599 rfl ?_
  refine xj_aload_n E d_L_law_600 rfl ?_
  refine xj_iload_n E d_L_law_601 rfl ?_
  refine xj_iconst (v := 1) E d_L_law_602 (by decide) ?_
  refine xj_iadd E d_L_law_603 ?_
  refine xj_sld E hb99 hX hbl hbA hin1 d_L_law_604 ?_
  refine xj_aload_n E d_L_law_605 rfl ?_
  refine xj_iload_n E d_L_law_606 rfl ?_
  refine xj_iconst (v := 2) E d_L_law_607 (by decide) ?_
  refine xj_iadd E d_L_law_608 ?_
  refine xj_sld E hb99 hX hbl hbA hin2 d_L_law_609 ?_
  refine xj_aload_n E d_L_law_610 rfl ?_
  refine xj_iload_n E d_L_law_611 rfl ?_
  refine xj_iconst (v := 3) E d_L_law_612 (by decide) ?_
  refine xj_iadd E d_L_law_613 ?_
  refine xj_sld E hb99 hX hbl hbA hin3 d_L_law_614 ?_
  refine xj_callV E (k_X9_invoke l G hI _ _ _ _ hxw hnc) cw_L_71 cv_X9_invoke (by decide) rfl rfl rfl ⟨by decide, by decide⟩ (Nat.le_of_ble_eq_true rfl) d_L_law_615 ⟨Nat.le_of_ble_eq_true rfl, Nat.le_of_ble_eq_true rfl⟩ (fun r615 μ615 ho615 hp615 => ?_)
  have hf := fx_invoke hp615
  obtain ⟨x, rfl⟩ := is_invoke hp615
  refine xj_st (st' := [.inl x]) rfl ?_
  refine xj_aload_n E d_L_law_618 rfl ?_
  refine xj_aload_n E d_L_law_619 rfl ?_
  refine xj_iload_n E d_L_law_620 rfl ?_
  refine xj_iconst (v := 1) E d_L_law_621 (by decide) ?_
  refine xj_iadd E d_L_law_622 ?_
  refine xj_sld E hb99 hX hbl hbA hin1 d_L_law_623 ?_
  refine xj_aload_n E d_L_law_624 rfl ?_
  refine xj_iload_n E d_L_law_625 rfl ?_
  refine xj_iconst (v := 2) E d_L_law_626 (by decide) ?_
  refine xj_iadd E d_L_law_627 ?_
  refine xj_sld E hb99 hX hbl hbA hin2 d_L_law_628 ?_
  refine xj_aload_n E d_L_law_629 rfl ?_
  refine xj_iload_n E d_L_law_630 rfl ?_
  refine xj_iconst (v := 3) E d_L_law_631 (by decide) ?_
  refine xj_iadd E d_L_law_632 ?_
  refine xj_sld E hb99 hX hbl hbA hin3 d_L_law_633 ?_
  refine xj_callV E (k_X10_invoke l G hI (μ 23 0) _ _ _ _ (hf.d.wf hd.mwf)) cw_L_74 cv_X10_invoke (by decide) rfl rfl rfl ⟨by decide, by decide⟩ (Nat.le_of_ble_eq_true rfl) d_L_law_634 ⟨Nat.le_of_ble_eq_true rfl, Nat.le_of_ble_eq_true rfl⟩ (fun r634 μ634 ho634 hp634 => ?_)
  obtain ⟨x', e1, rfl, hR⟩ := rel_invoke h hd hp615 hp634
  obtain rfl : x = x' := Sum.inl.inj (Option.some.inj e1)
  refine xj_st (st' := [.inl x, .inl x]) rfl ?_
  refine xj_icmp_eq (tgt := 691) E d_L_law_637 (by decide) (fun h637 => ?_) (fun h637 => absurd rfl h637)
  exact hK _ hR

set_option maxRecDepth 100000 in
set_option maxHeartbeats 4000000 in
theorem law_14 {p : Program} {l : Launch} {e : Env} {s : State} {m : MethodId} {below : List Frame} {meth : Method} {c : Code} {b L : Nat} {xs : Nat → Int32} {G : XG} (hI : XI G) (E : XE G (fun z => s.heap.size ≤ z) RL code 4 p s m #[Value.ref b] c) (hb99 : G.2.2.1 99 0 = b) (hX : va_X b L xs s s.heap) (hbl : b < s.heap.size) (hL : L ≤ 2560) {k : Nat} {μ : Mem} (hk : k + 5 ≤ L) (h : REL μ) (hK : ∀ μ', REL μ' → XJ G (fun z => s.heap.size ≤ z) 4 p l e room_1 s m #[Value.ref b] below meth c 600000 7302250 (lw_Z below #[Value.ref b] s) 691 [some (.inr (99, 0)), some (.inr (0, 0)), some (.inr (24, 0)), some (.inl (nI k))] [] μ') : XJ G (fun z => s.heap.size ≤ z) 4 p l e room_1 s m #[Value.ref b] below meth c 600000 7302250 (lw_Z below #[Value.ref b] s) 642 [some (.inr (99, 0)), some (.inr (0, 0)), some (.inr (24, 0)), some (.inl (nI k))] [] μ := by
  have hbA : ¬ (fun z => s.heap.size ≤ z) b := by show ¬ s.heap.size ≤ b; omega
  have hin1 : vp_in (nI k + 1) L := inL (c := 1) (by omega) hL
  have hin2 : vp_in (nI k + 2) L := inL (c := 2) (by omega) hL
  have hin3 : vp_in (nI k + 3) L := inL (c := 3) (by omega) hL
  have hin4 : vp_in (nI k + 4) L := inL (c := 4) (by omega) hL
  obtain ⟨nt, nc, ni, nd, np, hd⟩ := h.1
  have hxw := hd.xwf
  have hnc := h.2.2.2
  refine xj_aload_n E d_L_law_642 rfl ?_
  refine xj_callV E (k_X9_result l G hI _ ) cw_L_75 cv_X9_result (by decide) rfl rfl rfl ⟨by decide, by decide⟩ (Nat.le_of_ble_eq_true rfl) d_L_law_643 ⟨Nat.le_of_ble_eq_true rfl, Nat.le_of_ble_eq_true rfl⟩ (fun r643 μ643 ho643 hp643 => ?_)
  have hf := fx_result hp643
  obtain ⟨x, rfl⟩ := is_result hp643
  refine xj_st (st' := [.inl x]) rfl ?_
  refine xj_aload_n E d_L_law_646 rfl ?_
  refine xj_callV E (k_X10_result l G hI  _ ) cw_L_78 cv_X10_result (by decide) rfl rfl rfl ⟨by decide, by decide⟩ (Nat.le_of_ble_eq_true rfl) d_L_law_647 ⟨Nat.le_of_ble_eq_true rfl, Nat.le_of_ble_eq_true rfl⟩ (fun r647 μ647 ho647 hp647 => ?_)
  obtain ⟨x', e1, rfl, hR⟩ := rel_result h hp643 hp647
  obtain rfl : x = x' := Sum.inl.inj (Option.some.inj e1)
  refine xj_st (st' := [.inl x, .inl x]) rfl ?_
  refine xj_icmp_eq (tgt := 691) E d_L_law_650 (by decide) (fun h650 => ?_) (fun h650 => absurd rfl h650)
  exact hK _ hR

set_option maxRecDepth 100000 in
set_option maxHeartbeats 4000000 in
theorem law_15 {p : Program} {l : Launch} {e : Env} {s : State} {m : MethodId} {below : List Frame} {meth : Method} {c : Code} {b L : Nat} {xs : Nat → Int32} {G : XG} (hI : XI G) (E : XE G (fun z => s.heap.size ≤ z) RL code 4 p s m #[Value.ref b] c) (hb99 : G.2.2.1 99 0 = b) (hX : va_X b L xs s s.heap) (hbl : b < s.heap.size) (hL : L ≤ 2560) {k : Nat} {μ : Mem} (hk : k + 5 ≤ L) (h : REL μ) (hK : ∀ μ', REL μ' → XJ G (fun z => s.heap.size ≤ z) 4 p l e room_1 s m #[Value.ref b] below meth c 600000 7302250 (lw_Z below #[Value.ref b] s) 691 [some (.inr (99, 0)), some (.inr (0, 0)), some (.inr (24, 0)), some (.inl (nI k))] [] μ') : XJ G (fun z => s.heap.size ≤ z) 4 p l e room_1 s m #[Value.ref b] below meth c 600000 7302250 (lw_Z below #[Value.ref b] s) 655 [some (.inr (99, 0)), some (.inr (0, 0)), some (.inr (24, 0)), some (.inl (nI k))] [] μ := by
  have hbA : ¬ (fun z => s.heap.size ≤ z) b := by show ¬ s.heap.size ≤ b; omega
  have hin1 : vp_in (nI k + 1) L := inL (c := 1) (by omega) hL
  have hin2 : vp_in (nI k + 2) L := inL (c := 2) (by omega) hL
  have hin3 : vp_in (nI k + 3) L := inL (c := 3) (by omega) hL
  have hin4 : vp_in (nI k + 4) L := inL (c := 4) (by omega) hL
  obtain ⟨nt, nc, ni, nd, np, hd⟩ := h.1
  have hxw := hd.xwf
  have hnc := h.2.2.2
  refine xj_aload_n E d_L_law_655 rfl ?_
  refine xj_callV E (k_X9_error l G hI _ ) cw_L_79 cv_X9_error (by decide) rfl rfl rfl ⟨by decide, by decide⟩ (Nat.le_of_ble_eq_true rfl) d_L_law_656 ⟨Nat.le_of_ble_eq_true rfl, Nat.le_of_ble_eq_true rfl⟩ (fun r656 μ656 ho656 hp656 => ?_)
  have hf := fx_error hp656
  obtain ⟨x, rfl⟩ := is_error hp656
  refine xj_st (st' := [.inl x]) rfl ?_
  refine xj_aload_n E d_L_law_659 rfl ?_
  refine xj_callV E (k_X10_error l G hI  _ ) cw_L_82 cv_X10_error (by decide) rfl rfl rfl ⟨by decide, by decide⟩ (Nat.le_of_ble_eq_true rfl) d_L_law_660 ⟨Nat.le_of_ble_eq_true rfl, Nat.le_of_ble_eq_true rfl⟩ (fun r660 μ660 ho660 hp660 => ?_)
  obtain ⟨x', e1, rfl, hR⟩ := rel_error h hp656 hp660
  obtain rfl : x = x' := Sum.inl.inj (Option.some.inj e1)
  refine xj_st (st' := [.inl x, .inl x]) rfl ?_
  refine xj_icmp_eq (tgt := 691) E d_L_law_663 (by decide) (fun h663 => ?_) (fun h663 => absurd rfl h663)
  exact hK _ hR

set_option maxRecDepth 100000 in
set_option maxHeartbeats 4000000 in
theorem law_16 {p : Program} {l : Launch} {e : Env} {s : State} {m : MethodId} {below : List Frame} {meth : Method} {c : Code} {b L : Nat} {xs : Nat → Int32} {G : XG} (hI : XI G) (E : XE G (fun z => s.heap.size ≤ z) RL code 4 p s m #[Value.ref b] c) (hb99 : G.2.2.1 99 0 = b) (hX : va_X b L xs s s.heap) (hbl : b < s.heap.size) (hL : L ≤ 2560) {k : Nat} {μ : Mem} (hk : k + 5 ≤ L) (h : REL μ) (hK : ∀ μ', REL μ' → XJ G (fun z => s.heap.size ≤ z) 4 p l e room_1 s m #[Value.ref b] below meth c 600000 7302250 (lw_Z below #[Value.ref b] s) 691 [some (.inr (99, 0)), some (.inr (0, 0)), some (.inr (24, 0)), some (.inl (nI k))] [] μ') : XJ G (fun z => s.heap.size ≤ z) 4 p l e room_1 s m #[Value.ref b] below meth c 600000 7302250 (lw_Z below #[Value.ref b] s) 668 [some (.inr (99, 0)), some (.inr (0, 0)), some (.inr (24, 0)), some (.inl (nI k))] [] μ := by
  have hbA : ¬ (fun z => s.heap.size ≤ z) b := by show ¬ s.heap.size ≤ b; omega
  have hin1 : vp_in (nI k + 1) L := inL (c := 1) (by omega) hL
  have hin2 : vp_in (nI k + 2) L := inL (c := 2) (by omega) hL
  have hin3 : vp_in (nI k + 3) L := inL (c := 3) (by omega) hL
  have hin4 : vp_in (nI k + 4) L := inL (c := 4) (by omega) hL
  obtain ⟨nt, nc, ni, nd, np, hd⟩ := h.1
  have hxw := hd.xwf
  have hnc := h.2.2.2
  obtain ⟨n, hn, h22, h24, he⟩ := h.2.1.1
  refine xj_aload_n E d_L_law_668 rfl ?_
  refine xj_aload_n E d_L_law_669 rfl ?_
  refine xj_iload_n E d_L_law_670 rfl ?_
  refine xj_iconst (v := 1) E d_L_law_671 (by decide) ?_
  refine xj_iadd E d_L_law_672 ?_
  refine xj_sld E hb99 hX hbl hbA hin1 d_L_law_673 ?_
  refine xj_callV E (k_X9_log l G hI _ n _ hn h22) cw_L_83 cv_X9_log (by decide) rfl rfl rfl ⟨by decide, by decide⟩ (Nat.le_of_ble_eq_true rfl) d_L_law_674 ⟨Nat.le_of_ble_eq_true rfl, Nat.le_of_ble_eq_true rfl⟩ (fun r674 μ674 ho674 hp674 => ?_)
  have hf := fx_log hp674
  obtain ⟨x, rfl⟩ := is_log hp674
  refine xj_st (st' := [.inl x]) rfl ?_
  refine xj_aload_n E d_L_law_677 rfl ?_
  refine xj_aload_n E d_L_law_678 rfl ?_
  refine xj_iload_n E d_L_law_679 rfl ?_
  refine xj_iconst (v := 1) E d_L_law_680 (by decide) ?_
  refine xj_iadd E d_L_law_681 ?_
  refine xj_sld E hb99 hX hbl hbA hin1 d_L_law_682 ?_
  refine xj_callV E (k_X10_log l G hI _ n _ hn (by rw [hf 24 (by omega)]; exact h24)) cw_L_86 cv_X10_log (by decide) rfl rfl rfl ⟨by decide, by decide⟩ (Nat.le_of_ble_eq_true rfl) d_L_law_683 ⟨Nat.le_of_ble_eq_true rfl, Nat.le_of_ble_eq_true rfl⟩ (fun r683 μ683 ho683 hp683 => ?_)
  obtain ⟨x', e1, rfl, hR⟩ := rel_log h hn he hp674 hp683
  obtain rfl : x = x' := Sum.inl.inj (Option.some.inj e1)
  refine xj_st (st' := [.inl x, .inl x]) rfl ?_
  refine xj_icmp_eq (tgt := 691) E d_L_law_686 (by decide) (fun h686 => ?_) (fun h686 => absurd rfl h686)
  exact hK _ hR

set_option maxRecDepth 100000 in
set_option maxHeartbeats 4000000 in
theorem law_1 {p : Program} {l : Launch} {e : Env} {s : State} {m : MethodId} {below : List Frame} {meth : Method} {c : Code} {b L : Nat} {xs : Nat → Int32} {G : XG} (hI : XI G) (E : XE G (fun z => s.heap.size ≤ z) RL code 4 p s m #[Value.ref b] c) (hb99 : G.2.2.1 99 0 = b) (hX : va_X b L xs s s.heap) (hbl : b < s.heap.size) (hL : L ≤ 2560) {k : Nat} {μ : Mem} (hk : k + 5 ≤ L) (h : REL μ) (hK : ∀ μ', REL μ' → XJ G (fun z => s.heap.size ≤ z) 4 p l e room_1 s m #[Value.ref b] below meth c 600000 7302250 (lw_Z below #[Value.ref b] s) 691 [some (.inr (99, 0)), some (.inr (0, 0)), some (.inr (24, 0)), some (.inl (nI k))] [] μ') : XJ G (fun z => s.heap.size ≤ z) 4 p l e room_1 s m #[Value.ref b] below meth c 600000 7302250 (lw_Z below #[Value.ref b] s) 127 [some (.inr (99, 0)), some (.inr (0, 0)), some (.inr (24, 0)), some (.inl (nI k))] [] μ := by
  have hbA : ¬ (fun z => s.heap.size ≤ z) b := by show ¬ s.heap.size ≤ b; omega
  have hin1 : vp_in (nI k + 1) L := inL (c := 1) (by omega) hL
  have hin2 : vp_in (nI k + 2) L := inL (c := 2) (by omega) hL
  have hin3 : vp_in (nI k + 3) L := inL (c := 3) (by omega) hL
  have hin4 : vp_in (nI k + 4) L := inL (c := 4) (by omega) hL
  obtain ⟨nt, nc, ni, nd, np, hd⟩ := h.1
  have hxw := hd.xwf
  have hnc := h.2.2.2
  have hz : (if (xs (nI k + 1).toNatClampNeg) = 0 then (0 : Int32) else 1) = 0 ∨ (if (xs (nI k + 1).toNatClampNeg) = 0 then (0 : Int32) else 1) = 1 := by
    split
    · exact Or.inl rfl
    · exact Or.inr rfl
  have s158 : ∀ (μ1 : Mem) (x : Int32), (XJ G (fun z => s.heap.size ≤ z) 4 p l e room_1 s m #[Value.ref b] below meth c 600000 7302250 (lw_Z below #[Value.ref b] s) 158 [some (.inr (99, 0)), some (.inr (0, 0)), some (.inr (24, 0)), some (.inl (nI k))] [.inl (if (xs (nI k + 1).toNatClampNeg) = 0 then (0 : Int32) else 1), .inr (24, 0), .inl x] μ1) → XJ G (fun z => s.heap.size ≤ z) 4 p l e room_1 s m #[Value.ref b] below meth c 600000 7302250 (lw_Z below #[Value.ref b] s) 144 [some (.inr (99, 0)), some (.inr (0, 0)), some (.inr (24, 0)), some (.inl (nI k))] [.inl x] μ1 := by
    intro μ1 x hq
    refine xj_aload_n E d_L_law_144 rfl ?_
    refine xj_aload_n E d_L_law_145 rfl ?_
    refine xj_iload_n E d_L_law_146 rfl ?_
    refine xj_iconst (v := 1) E d_L_law_147 (by decide) ?_
    refine xj_iadd E d_L_law_148 ?_
    refine xj_sld E hb99 hX hbl hbA hin1 d_L_law_149 ?_
    refine xj_if_eq (tgt := 157) E d_L_law_150 (by decide) (fun h150 => ?_) (fun h150 => ?_)
    · refine xj_iconst (v := 0) E d_L_law_157 (by decide) ?_
      first
        | (refine xj_st (st' := [.inl (if (xs (nI k + 1).toNatClampNeg) = 0 then (0 : Int32) else 1), .inr (24, 0), .inl x]) (by rw [if_pos h150]) ?_
           exact hq)
        | (refine xj_st (st' := [.inl (if (xs (nI k + 1).toNatClampNeg) = 0 then (0 : Int32) else 1), .inr (24, 0), .inl x]) (by rw [if_neg h150]) ?_
           exact hq)
    refine xj_iconst (v := 1) E d_L_law_153 (by decide) ?_
    refine xj_goto (tgt := 158) E d_L_law_154 (by decide) ?_
    first
      | (refine xj_st (st' := [.inl (if (xs (nI k + 1).toNatClampNeg) = 0 then (0 : Int32) else 1), .inr (24, 0), .inl x]) (by rw [if_pos h150]) ?_
         exact hq)
      | (refine xj_st (st' := [.inl (if (xs (nI k + 1).toNatClampNeg) = 0 then (0 : Int32) else 1), .inr (24, 0), .inl x]) (by rw [if_neg h150]) ?_
         exact hq)
  have s141 : XJ G (fun z => s.heap.size ≤ z) 4 p l e room_1 s m #[Value.ref b] below meth c 600000 7302250 (lw_Z below #[Value.ref b] s) 141 [some (.inr (99, 0)), some (.inr (0, 0)), some (.inr (24, 0)), some (.inl (nI k))] [.inl (if (xs (nI k + 1).toNatClampNeg) = 0 then (0 : Int32) else 1), .inr (0, 0)] μ := by
    refine xj_callV E (k_X9_binding l G hI _ _ hxw hz) cw_L_17 cv_X9_binding (by decide) rfl rfl rfl ⟨by decide, by decide⟩ (Nat.le_of_ble_eq_true rfl) d_L_law_141 ⟨Nat.le_of_ble_eq_true rfl, Nat.le_of_ble_eq_true rfl⟩ (fun r141 μ141 ho141 hp141 => ?_)
    have hf := fx_binding hp141
    obtain ⟨x, rfl⟩ := is_binding hp141
    refine xj_st (st' := [.inl x]) rfl ?_
    refine s158 _ _ ?_
    refine xj_callV E (k_X10_binding l G hI _ nt _ (by rw [hf 24 (by omega)]; exact hd.T.2.2.1) hd.T.1 hz) cw_L_21 cv_X10_binding (by decide) rfl rfl rfl ⟨by decide, by decide⟩ (Nat.le_of_ble_eq_true rfl) d_L_law_158 ⟨Nat.le_of_ble_eq_true rfl, Nat.le_of_ble_eq_true rfl⟩ (fun r158 μ158 ho158 hp158 => ?_)
    obtain ⟨x', e1, rfl, hR⟩ := rel_binding h hd hp141 hp158
    obtain rfl : x = x' := Sum.inl.inj (Option.some.inj e1)
    refine xj_st (st' := [.inl x, .inl x]) rfl ?_
    refine xj_icmp_eq (tgt := 691) E d_L_law_161 (by decide) (fun h161 => ?_) (fun h161 => absurd rfl h161)
    exact hK _ hR
  refine xj_aload_n E d_L_law_127 rfl ?_
  refine xj_aload_n E d_L_law_128 rfl ?_
  refine xj_iload_n E d_L_law_129 rfl ?_
  refine xj_iconst (v := 1) E d_L_law_130 (by decide) ?_
  refine xj_iadd E d_L_law_131 ?_
  refine xj_sld E hb99 hX hbl hbA hin1 d_L_law_132 ?_
  refine xj_if_eq (tgt := 140) E d_L_law_133 (by decide) (fun h133 => ?_) (fun h133 => ?_)
  · refine xj_iconst (v := 0) E d_L_law_140 (by decide) ?_
    first
      | (refine xj_st (st' := [.inl (if (xs (nI k + 1).toNatClampNeg) = 0 then (0 : Int32) else 1), .inr (0, 0)]) (by rw [if_pos h133]) ?_
         exact s141)
      | (refine xj_st (st' := [.inl (if (xs (nI k + 1).toNatClampNeg) = 0 then (0 : Int32) else 1), .inr (0, 0)]) (by rw [if_neg h133]) ?_
         exact s141)
  refine xj_iconst (v := 1) E d_L_law_136 (by decide) ?_
  refine xj_goto (tgt := 141) E d_L_law_137 (by decide) ?_
  first
    | (refine xj_st (st' := [.inl (if (xs (nI k + 1).toNatClampNeg) = 0 then (0 : Int32) else 1), .inr (0, 0)]) (by rw [if_pos h133]) ?_
       exact s141)
    | (refine xj_st (st' := [.inl (if (xs (nI k + 1).toNatClampNeg) = 0 then (0 : Int32) else 1), .inr (0, 0)]) (by rw [if_neg h133]) ?_
       exact s141)

set_option maxRecDepth 100000 in
set_option maxHeartbeats 4000000 in
theorem law_loop {p : Program} {l : Launch} {e : Env} {s : State} {m : MethodId} {below : List Frame} {meth : Method} {c : Code} {b L : Nat} {xs : Nat → Int32} {G : XG} (hI : XI G) (E : XE G (fun z => s.heap.size ≤ z) RL code 4 p s m #[Value.ref b] c) (hb99 : G.2.2.1 99 0 = b) (hX : va_X b L xs s s.heap) (hbl : b < s.heap.size) (hL : L ≤ 2560) (hr : meth.sig.returnType = ret) (hlk : meth.locks = false) : ∀ (n k : Nat) (μ : Mem), L - k = n → k ≤ L + 5 → REL μ → XJ G (fun z => s.heap.size ≤ z) 4 p l e room_1 s m #[Value.ref b] below meth c 600000 7302250 (lw_Z below #[Value.ref b] s) 18 [some (.inr (99, 0)), some (.inr (0, 0)), some (.inr (24, 0)), some (.inl (nI k))] [] μ := by
  intro n
  induction n using Nat.strongRecOn with
  | _ n ih =>
    intro k μ hn hk h
    have hbA : ¬ (fun z => s.heap.size ≤ z) b := by show ¬ s.heap.size ≤ b; omega
    have hT : k + 5 ≤ L → ∀ v : Int32, XJ G (fun z => s.heap.size ≤ z) 4 p l e room_1 s m #[Value.ref b] below meth c 600000 7302250 (lw_Z below #[Value.ref b] s) 32 [some (.inr (99, 0)), some (.inr (0, 0)), some (.inr (24, 0)), some (.inl (nI k))] [.inl v] μ := by
      intro hk5 v
      have hK : ∀ μ', REL μ' → XJ G (fun z => s.heap.size ≤ z) 4 p l e room_1 s m #[Value.ref b] below meth c 600000 7302250 (lw_Z below #[Value.ref b] s) 691 [some (.inr (99, 0)), some (.inr (0, 0)), some (.inr (24, 0)), some (.inl (nI k))] [] μ' := by
        intro μ' h'
        refine xj_iinc (v := nI (k + 5)) E d_L_law_691 rfl (nI_ad k 5) rfl ?_
        refine xj_goto (tgt := 18) E d_L_law_694 (by decide) ?_
        exact ih (L - (k + 5)) (by omega) (k + 5) μ' rfl (by omega) h'
      by_cases hv : v.toInt < 0 ∨ 16 < v.toInt
      · exact xj_tableOut (tgt := 691) E d_L_law_32 hv (by decide) (hK μ h)
      · have hc : v.toInt = 0 ∨ v.toInt = 1 ∨ v.toInt = 2 ∨ v.toInt = 3 ∨ v.toInt = 4 ∨ v.toInt = 5 ∨ v.toInt = 6 ∨ v.toInt = 7 ∨ v.toInt = 8 ∨ v.toInt = 9 ∨ v.toInt = 10 ∨ v.toInt = 11 ∨ v.toInt = 12 ∨ v.toInt = 13 ∨ v.toInt = 14 ∨ v.toInt = 15 ∨ v.toInt = 16 := by omega
        rcases hc with e | e | e | e | e | e | e | e | e | e | e | e | e | e | e | e | e
        · exact xj_tableIn (off := 84) (tgt := 116) E d_L_law_32 (by omega) (by omega) (by rw [e]; rfl) (by decide) (law_0 hI E hb99 hX hbl hL hk5 h hK)
        · exact xj_tableIn (off := 95) (tgt := 127) E d_L_law_32 (by omega) (by omega) (by rw [e]; rfl) (by decide) (law_1 hI E hb99 hX hbl hL hk5 h hK)
        · exact xj_tableIn (off := 134) (tgt := 166) E d_L_law_32 (by omega) (by omega) (by rw [e]; rfl) (by decide) (law_2 hI E hb99 hX hbl hL hk5 h hK)
        · exact xj_tableIn (off := 177) (tgt := 209) E d_L_law_32 (by omega) (by omega) (by rw [e]; rfl) (by decide) (law_3 hI E hb99 hX hbl hL hk5 h hK)
        · exact xj_tableIn (off := 220) (tgt := 252) E d_L_law_32 (by omega) (by omega) (by rw [e]; rfl) (by decide) (law_4 hI E hb99 hX hbl hL hk5 h hK)
        · exact xj_tableIn (off := 273) (tgt := 305) E d_L_law_32 (by omega) (by omega) (by rw [e]; rfl) (by decide) (law_5 hI E hb99 hX hbl hL hk5 h hK)
        · exact xj_tableIn (off := 296) (tgt := 328) E d_L_law_32 (by omega) (by omega) (by rw [e]; rfl) (by decide) (law_6 hI E hb99 hX hbl hL hk5 h hK)
        · exact xj_tableIn (off := 339) (tgt := 371) E d_L_law_32 (by omega) (by omega) (by rw [e]; rfl) (by decide) (law_7 hI E hb99 hX hbl hL hk5 h hK)
        · exact xj_tableIn (off := 392) (tgt := 424) E d_L_law_32 (by omega) (by omega) (by rw [e]; rfl) (by decide) (law_8 hI E hb99 hX hbl hL hk5 h hK)
        · exact xj_tableIn (off := 435) (tgt := 467) E d_L_law_32 (by omega) (by omega) (by rw [e]; rfl) (by decide) (law_9 hI E hb99 hX hbl hL hk5 h hK)
        · exact xj_tableIn (off := 478) (tgt := 510) E d_L_law_32 (by omega) (by omega) (by rw [e]; rfl) (by decide) (law_10 hI E hb99 hX hbl hL hk5 h hK)
        · exact xj_tableIn (off := 491) (tgt := 523) E d_L_law_32 (by omega) (by omega) (by rw [e]; rfl) (by decide) (law_11 hI E hb99 hX hbl hL hk5 h hK)
        · exact xj_tableIn (off := 524) (tgt := 556) E d_L_law_32 (by omega) (by omega) (by rw [e]; rfl) (by decide) (law_12 hI E hb99 hX hbl hL hk5 h hK)
        · exact xj_tableIn (off := 567) (tgt := 599) E d_L_law_32 (by omega) (by omega) (by rw [e]; rfl) (by decide) (law_13 hI E hb99 hX hbl hL hk5 h hK)
        · exact xj_tableIn (off := 610) (tgt := 642) E d_L_law_32 (by omega) (by omega) (by rw [e]; rfl) (by decide) (law_14 hI E hb99 hX hbl hL hk5 h hK)
        · exact xj_tableIn (off := 623) (tgt := 655) E d_L_law_32 (by omega) (by omega) (by rw [e]; rfl) (by decide) (law_15 hI E hb99 hX hbl hL hk5 h hK)
        · exact xj_tableIn (off := 636) (tgt := 668) E d_L_law_32 (by omega) (by omega) (by rw [e]; rfl) (by decide) (law_16 hI E hb99 hX hbl hL hk5 h hK)
    refine xj_iload_n E d_L_law_18 rfl ?_
    refine xj_aload_n E d_L_law_19 rfl ?_
    refine xj_slen E hb99 hX hbl hbA d_L_law_20 ?_
    refine xj_iconst (v := 5) E d_L_law_21 (by decide) ?_
    refine xj_isub E d_L_law_22 ?_
    refine xj_icmp_gt (tgt := 697) E d_L_law_23 (by decide) (fun h23 => ?_) (fun h23 => ?_)
    · refine xj_iconst (v := 1) E d_L_law_697 (by decide) ?_
      exact fun ls H locs ho hol hl hP hS => va_forget hS.2.2 (lw_ret E.1 E.2.1 hr hlk d_L_law_698)
    refine xj_aload_n E d_L_law_26 rfl ?_
    refine xj_iload_n E d_L_law_27 rfl ?_
    refine xj_sld E hb99 hX hbl hbA (vp_in_nI (show k < L by have := gt5 (by omega) hL h23; omega) (by omega)) d_L_law_28 ?_
    refine xj_bipush (v := 31) E d_L_law_29 (by decide) ?_
    refine xj_iand E d_L_law_31 ?_
    exact hT (gt5 (by omega) hL h23) _
