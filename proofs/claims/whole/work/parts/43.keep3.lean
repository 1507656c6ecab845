theorem rowOK.eq {μ μ' : Mem} (hf : ∀ f, f ∈ [1, 2, 3, 4, 5, 6, 8, 10, 12, 13, 14, 32, 34, 35, 36, 38, 39, 40, 42, 43, 44, 45, 47, 48, 49, 50, 51, 52, 53] → μ' f = μ f) (nt r b : Nat) : rowOK μ' nt r b = rowOK μ nt r b := by
  unfold rowOK
  rw [hf 4 (by decide), hf 5 (by decide), hf 6 (by decide), hf 49 (by decide), hf 50 (by decide), hf 51 (by decide)]
theorem lstOK.eq {μ μ' : Mem} (hf : ∀ f, f ∈ [1, 2, 3, 4, 5, 6, 8, 10, 12, 13, 14, 32, 34, 35, 36, 38, 39, 40, 42, 43, 44, 45, 47, 48, 49, 50, 51, 52, 53] → μ' f = μ f) (ni r q : Nat) : lstOK μ' ni r q = lstOK μ ni r q := by
  unfold lstOK
  rw [hf 13 (by decide), hf 14 (by decide), hf 52 (by decide), hf 53 (by decide)]
theorem RELd.cg {μ μ' : Mem} {nt nc ni nd np : Nat} (h : RELd μ nt nc ni nd np) (hf : ∀ f, f ∈ [1, 2, 3, 4, 5, 6, 8, 10, 12, 13, 14, 32, 34, 35, 36, 38, 39, 40, 42, 43, 44, 45, 47, 48, 49, 50, 51, 52, 53] → μ' f = μ f) (hz : ∀ j, j ∈ [2, 4, 6] → μ' 0 0 j = μ 0 0 j) (ho : ∀ j, j ∈ [1, 3, 7, 11, 16] → μ' 24 0 j = μ 24 0 j) : RELd μ' nt nc ni nd np := by
  unfold RELd relT relC relI relD relP relR relZ at *
  simp only [rowOK.eq hf, lstOK.eq hf]
  rw [hf 1 (by decide), hf 2 (by decide), hf 3 (by decide), hf 4 (by decide), hf 5 (by decide), hf 6 (by decide), hf 8 (by decide), hf 10 (by decide), hf 12 (by decide), hf 13 (by decide), hf 32 (by decide), hf 34 (by decide), hf 35 (by decide), hf 36 (by decide), hf 38 (by decide), hf 39 (by decide), hf 40 (by decide), hf 42 (by decide), hf 43 (by decide), hf 44 (by decide), hf 45 (by decide), hf 47 (by decide), hf 48 (by decide), hf 49 (by decide), hf 52 (by decide), ho 1 (by decide), ho 3 (by decide), ho 7 (by decide), ho 11 (by decide), ho 16 (by decide), hz 2 (by decide), hz 4 (by decide), hz 6 (by decide)]
  exact h
theorem xNC.cg {μ μ' : Mem} (h : xNC μ) (hf : ∀ f, f ∈ [1, 2, 3, 4, 5, 6, 8, 10, 12, 13, 14, 32, 34, 35, 36, 38, 39, 40, 42, 43, 44, 45, 47, 48, 49, 50, 51, 52, 53] → μ' f = μ f) (hz : ∀ j, j ∈ [2, 4, 6] → μ' 0 0 j = μ 0 0 j) : xNC μ' := by
  unfold xNC xni xnp xConf xnb xca at *
  have e1 : ∀ b, xbt μ' b = xbt μ b := fun b => by funext k; unfold xbt; rw [hf 5 (by decide)]
  have e2 : ∀ b, xbv μ' b = xbv μ b := fun b => by funext k; unfold xbv; rw [hf 6 (by decide)]
  simp only [e1, e2]
  rw [hf 3 (by decide), hf 4 (by decide), hz 2 (by decide), hz 6 (by decide)]
  exact h
theorem relL.cg {μ μ' : Mem} (h : relL μ) (h22 : μ' 22 = μ 22) (h23 : μ' 23 = μ 23) (h66 : μ' 66 = μ 66) (ho : ∀ j, j ∈ [35, 37, 38] → μ' 24 0 j = μ 24 0 j) : relL μ' := by
  unfold relL at *
  rw [h22, h23, h66, ho 35 (by decide), ho 37 (by decide), ho 38 (by decide)]
  exact h
theorem REL.s {μ μ' : Mem} (h : REL μ) (hs : frS μ μ') : REL μ' := by
  obtain ⟨⟨nt, nc, ni, nd, np, hd⟩, hl, h0, hn⟩ := h
  refine ⟨⟨nt, nc, ni, nd, np, hd.cg (fun f hf => hs f (by simp at hf; omega)) (fun j _ => by rw [hs 0 (by omega)]) (fun j _ => by rw [hs 24 (by omega)])⟩, hl.cg (hs 22 (by omega)) (hs 23 (by omega)) (hs 66 (by omega)) (fun j _ => by rw [hs 24 (by omega)]), by rw [hs 24 (by omega), hs 0 (by omega)]; exact h0, fun z => (hn (by rw [hs 0 (by omega)] at z; exact z)).cg (fun f hf => hs f (by simp at hf; omega)) (fun j _ => by rw [hs 0 (by omega)])⟩
theorem REL.l {μ μ' : Mem} (h : REL μ) (hs : frL μ μ') : REL μ' := by
  obtain ⟨⟨nt, nc, ni, nd, np, hd⟩, hl, h0, hn⟩ := h
  have ha : ∀ f, f ∈ [1, 2, 3, 4, 5, 6, 8, 10, 12, 13, 14, 32, 34, 35, 36, 38, 39, 40, 42, 43, 44, 45, 47, 48, 49, 50, 51, 52, 53] → μ' f = μ f := fun f hf => hs.1 f (by simp at hf; omega) (by simp at hf ⊢; omega)
  have hb : ∀ j, j ∉ [24, 27, 30] → μ' 24 0 j = μ 24 0 j := fun j hj => hs.2 0 j (fun z => hj z.2)
  have hc : μ' 0 = μ 0 := hs.1 0 (by decide) (by decide)
  refine ⟨⟨nt, nc, ni, nd, np, hd.cg ha (fun j _ => by rw [hc]) (fun j hj => hb j (by simp at hj ⊢; omega))⟩, hl.cg (hs.1 22 (by decide) (by decide)) (hs.1 23 (by decide) (by decide)) (hs.1 66 (by decide) (by decide)) (fun j hj => hb j (by simp at hj ⊢; omega)), by rw [hb 0 (by decide), hc]; exact h0, fun z => (hn (by rw [hc] at z; exact z)).cg ha (fun j _ => by rw [hc])⟩
theorem frS.x {μ μ' : Mem} (h : frS μ μ') : fX μ μ' := fun f hf => h f (by omega)

theorem rel_result {μ μ1 μ2 : Mem} {r1 r2 : Option XV} (h : REL μ) (hx : (fun r μ' => r = some (.inl (μ 22 0 2)) ∧ μ' = μ) r1 μ1) (hm : (fun (μ : Mem) => (fun r μ' => r = some (.inl (μ 24 0 37)) ∧ μ' = μ)) μ1 r2 μ2) : ∃ x, r1 = some (.inl x) ∧ r2 = some (.inl x) ∧ REL μ2 := by
  obtain ⟨rfl, rfl⟩ := hx
  obtain ⟨rfl, rfl⟩ := hm
  exact ⟨_, rfl, by rw [h.2.1.2.1], h⟩

theorem rel_error {μ μ1 μ2 : Mem} {r1 r2 : Option XV} (h : REL μ) (hx : (fun r μ' => r = some (.inl (μ 22 0 3)) ∧ μ' = μ) r1 μ1) (hm : (fun (μ : Mem) => (fun r μ' => r = some (.inl (μ 24 0 38)) ∧ μ' = μ)) μ1 r2 μ2) : ∃ x, r1 = some (.inl x) ∧ r2 = some (.inl x) ∧ REL μ2 := by
  obtain ⟨rfl, rfl⟩ := hx
  obtain ⟨rfl, rfl⟩ := hm
  exact ⟨_, rfl, by rw [h.2.1.2.2], h⟩

theorem rel_log {b : Int32} {n : Nat} {μ μ1 μ2 : Mem} {r1 r2 : Option XV} (h : REL μ) (hn : n ≤ 64) (he : ∀ i, i < n → μ 66 0 i = μ 23 0 i) (hx : (fun (n : Nat) => (fun r μ' => μ' = μ ∧ ((¬ inR b n ∧ r = some (.inl (-3))) ∨ ∃ i, i < n ∧ b = nI i ∧ r = some (.inl (μ 23 0 i))))) n r1 μ1) (hm : (fun (μ : Mem) (n : Nat) => (fun r μ' => μ' = μ ∧ ((¬ inR b n ∧ r = some (.inl (-3))) ∨ ∃ i, i < n ∧ b = nI i ∧ r = some (.inl (μ 66 0 i))))) μ1 n r2 μ2) : ∃ x, r1 = some (.inl x) ∧ r2 = some (.inl x) ∧ REL μ2 := by
  obtain ⟨rfl, hx⟩ := hx
  obtain ⟨rfl, hm⟩ := hm
  rcases hx with ⟨c1, rfl⟩ | ⟨i, hi, e, rfl⟩
  · rcases hm with ⟨d1, rfl⟩ | ⟨i, hi, e, rfl⟩
    · exact ⟨_, rfl, rfl, h⟩
    · exact absurd ⟨i, hi, e⟩ c1
  · rcases hm with ⟨d1, rfl⟩ | ⟨i2, hi2, e2, rfl⟩
    · exact absurd ⟨i, hi, e⟩ d1
    · have : i2 = i := (nI_eq (by omega) (by omega)).mp (e2.symm.trans e)
      subst this
      exact ⟨_, rfl, by rw [he i2 hi], h⟩

set_option maxHeartbeats 4000000 in
theorem rel_length {a y : Int32} {μ μ1 μ2 : Mem} {r1 r2 : Option XV} {nt nc ni nd np : Nat} (h : REL μ) (hd : RELd μ nt nc ni nd np) (hx : (fun r μ' => (μ 0 0 7 = 0 ∧ r = some (.inl (-6)) ∧ μ' = μ) ∨ (¬ μ 0 0 7 = 0 ∧ ¬ (inR a (xnp μ) ∧ inR y 7) ∧ r = some (.inl (-3)) ∧ μ' = μ) ∨ (¬ μ 0 0 7 = 0 ∧ ∃ j k, j < xnp μ ∧ k < 7 ∧ a = nI j ∧ y = nI k ∧ r = some (.inl (nI (xChn μ j k).length)) ∧ frS μ μ')) r1 μ1) (hm : (fun (μ : Mem) => (fun r μ' => (μ 24 0 0 = 0 ∧ r = some (.inl (-6)) ∧ μ' = μ) ∨ (¬ μ 24 0 0 = 0 ∧ ¬ (inR a (mnp μ) ∧ inR y 7) ∧ r = some (.inl (-3)) ∧ μ' = μ) ∨ (¬ μ 24 0 0 = 0 ∧ ∃ j k, j < mnp μ ∧ k < 7 ∧ a = nI j ∧ y = nI k ∧ r = some (.inl (nI (mChn μ j k).length)) ∧ frL μ μ')))  μ1 r2 μ2) : ∃ x, r1 = some (.inl x) ∧ r2 = some (.inl x) ∧ REL μ2 := by
  have hdep := h.2.2.1
  rcases hx with ⟨c0, rfl, rfl⟩ | ⟨c0, cB, rfl, rfl⟩ | ⟨c0, j, k, hj, hk, ea, ey, rfl, hs⟩
  · rcases hm with ⟨d0, rfl, rfl⟩ | ⟨d0, dB, rfl, rfl⟩ | ⟨d0, -⟩
    · exact ⟨_, rfl, rfl, h⟩
    · exact absurd (hdep.trans c0) d0
    · exact absurd (hdep.trans c0) d0
  · rcases hm with ⟨d0, rfl, rfl⟩ | ⟨d0, dB, rfl, rfl⟩ | ⟨d0, j2, k2, hj2, hk2, ea2, ey2, -⟩
    · exact absurd (hdep.symm.trans d0) c0
    · exact ⟨_, rfl, rfl, h⟩
    · rw [hd.vP] at cB
      rw [hd.wP] at hj2
      exact absurd ⟨⟨j2, hj2, ea2⟩, ⟨k2, hk2, ey2⟩⟩ cB
  · have hxx : fX μ μ1 := hs.x
    have hdep1 : μ1 24 0 0 = μ 0 0 7 := by rw [hxx 24 (by omega)]; exact hdep
    have enp : mnp μ1 = np := by rw [hxx.d.np]; exact hd.wP
    rw [hd.vP] at hj
    rw [enp] at hm
    have hnp := hd.P.1
    rcases hm with ⟨d0, hr, hmu⟩ | ⟨d0, dB, hr, hmu⟩ | ⟨d0, j2, k2, hj2, hk2, ea2, ey2, hm⟩
    · exact absurd (hdep1.symm.trans d0) c0
    · exact absurd ⟨⟨j, hj, ea⟩, ⟨k, hk, ey⟩⟩ dB
    · have : j2 = j := (nI_eq (by omega) (by omega)).mp (ea2.symm.trans ea)
      subst this
      have : k2 = k := (nI_eq (by omega) (by omega)).mp (ey2.symm.trans ey)
      subst this
      have ec := hd.chn hj hk
      rw [hxx.d.chn, ec.1, List.length_map] at hm
      obtain ⟨rfl, hl⟩ := hm
      exact ⟨_, rfl, rfl, (h.s hs).l hl⟩

set_option maxHeartbeats 4000000 in
theorem rel_element {a y b : Int32} {μ μ1 μ2 : Mem} {r1 r2 : Option XV} {nt nc ni nd np : Nat} (h : REL μ) (hd : RELd μ nt nc ni nd np) (hx : (fun r μ' => (μ 0 0 7 = 0 ∧ r = some (.inl (-6)) ∧ μ' = μ) ∨ (¬ μ 0 0 7 = 0 ∧ ¬ (inR a (xnp μ) ∧ inR y 7) ∧ r = some (.inl (-3)) ∧ μ' = μ) ∨ (¬ μ 0 0 7 = 0 ∧ ∃ j k, j < xnp μ ∧ k < 7 ∧ a = nI j ∧ y = nI k ∧ frS μ μ' ∧ ((¬ inR b (xChn μ j k).length ∧ r = some (.inl (-3))) ∨ ∃ i q, (xChn μ j k)[i]? = some q ∧ b = nI i ∧ r = some (.inl q.1)))) r1 μ1) (hm : (fun (μ : Mem) => (fun r μ' => (μ 24 0 0 = 0 ∧ r = some (.inl (-6)) ∧ μ' = μ) ∨ (¬ μ 24 0 0 = 0 ∧ ¬ (inR a (mnp μ) ∧ inR y 7) ∧ r = some (.inl (-3)) ∧ μ' = μ) ∨ (¬ μ 24 0 0 = 0 ∧ ∃ j k, j < mnp μ ∧ k < 7 ∧ a = nI j ∧ y = nI k ∧ frL μ μ' ∧ ((¬ inR b (mChn μ j k).length ∧ r = some (.inl (-3))) ∨ ∃ i x, (mChn μ j k)[i]? = some x ∧ b = nI i ∧ r = some (.inl x)))))  μ1 r2 μ2) : ∃ x, r1 = some (.inl x) ∧ r2 = some (.inl x) ∧ REL μ2 := by
  have hdep := h.2.2.1
  rcases hx with ⟨c0, rfl, rfl⟩ | ⟨c0, cB, rfl, rfl⟩ | ⟨c0, j, k, hj, hk, ea, ey, hs, hc⟩
  · rcases hm with ⟨d0, rfl, rfl⟩ | ⟨d0, dB, rfl, rfl⟩ | ⟨d0, -⟩
    · exact ⟨_, rfl, rfl, h⟩
    · exact absurd (hdep.trans c0) d0
    · exact absurd (hdep.trans c0) d0
  · rcases hm with ⟨d0, rfl, rfl⟩ | ⟨d0, dB, rfl, rfl⟩ | ⟨d0, j2, k2, hj2, hk2, ea2, ey2, -⟩
    · exact absurd (hdep.symm.trans d0) c0
    · exact ⟨_, rfl, rfl, h⟩
    · rw [hd.vP] at cB
      rw [hd.wP] at hj2
      exact absurd ⟨⟨j2, hj2, ea2⟩, ⟨k2, hk2, ey2⟩⟩ cB
  · have hxx : fX μ μ1 := hs.x
    have hdep1 : μ1 24 0 0 = μ 0 0 7 := by rw [hxx 24 (by omega)]; exact hdep
    have enp : mnp μ1 = np := by rw [hxx.d.np]; exact hd.wP
    rw [hd.vP] at hj
    rw [enp] at hm
    have hnp := hd.P.1
    rcases hm with ⟨d0, hr, hmu⟩ | ⟨d0, dB, hr, hmu⟩ | ⟨d0, j2, k2, hj2, hk2, ea2, ey2, hm⟩
    · exact absurd (hdep1.symm.trans d0) c0
    · exact absurd ⟨⟨j, hj, ea⟩, ⟨k, hk, ey⟩⟩ dB
    · have : j2 = j := (nI_eq (by omega) (by omega)).mp (ea2.symm.trans ea)
      subst this
      have : k2 = k := (nI_eq (by omega) (by omega)).mp (ey2.symm.trans ey)
      subst this
      have ec := hd.chn hj hk
      rw [hxx.d.chn, ec.1, List.length_map] at hm
      obtain ⟨hl, hm⟩ := hm
      rcases hc with ⟨c1, rfl⟩ | ⟨i, q, e1, e2, rfl⟩
      · rcases hm with ⟨d1, rfl⟩ | ⟨i2, x, e3, e4, rfl⟩
        · exact ⟨_, rfl, rfl, (h.s hs).l hl⟩
        · rw [List.getElem?_map] at e3
          obtain ⟨q, e5, -⟩ := Option.map_eq_some_iff.mp e3
          exact absurd ⟨i2, (List.getElem?_eq_some_iff.mp e5).1, e4⟩ c1
      · have hi := (List.getElem?_eq_some_iff.mp e1).1
        have hw := mChn_len hd.mwf (j := j2) (k := k2) (by rw [hd.wP]; exact hj)
        rw [ec.1, List.length_map] at hw
        rcases hm with ⟨d1, rfl⟩ | ⟨i2, x, e3, e4, rfl⟩
        · exact absurd ⟨i, hi, e2⟩ d1
        · rw [List.getElem?_map] at e3
          obtain ⟨q2, e5, e6⟩ := Option.map_eq_some_iff.mp e3
          have hi2 := (List.getElem?_eq_some_iff.mp e5).1
          have : i2 = i := (nI_eq (by omega) (by omega)).mp (e4.symm.trans e2)
          subst this
          rw [e1] at e5
          cases e5
          exact ⟨_, rfl, by rw [← e6], (h.s hs).l hl⟩

theorem mrun_f {μ : Mem} {y z : Int32} {q : Int32 × RS} {f : Nat} (h2 : f ≠ 22) (h3 : f ≠ 23) : mrun μ y z q f = μ f := by
  unfold mrun
  rw [mset_f h2]
  funext i
  unfold mrs
  rw [if_neg (fun w => h3 w.1), if_neg (fun w => h2 w.1), mset_f h2, mset_f h2, mset_f h2, mset_f h2, mset_f h2, mset_f h2]
theorem xFl_m {μ : Mem} {nt nc ni nd np j k : Nat} (hd : RELd μ nt nc ni nd np) (hj : j < np) : xFl μ j k = mFz μ j k := by
  unfold xFl mFz
  by_cases h4 : k < 4
  · rw [if_pos h4, (hd.P.2.2.2 j hj).2 k h4]
    by_cases h : μ 13 (5 * j + 1 + k) 3 &&& 4 = 0
    · rw [if_pos h, if_neg (fun w => w.2 h)]
    · rw [if_neg h, if_pos ⟨h4, h⟩]
  · rw [if_neg h4, if_neg (fun w => h4 w.1)]

set_option maxHeartbeats 4000000 in
theorem rel_invoke {a y b : Int32} {μ μ1 μ2 : Mem} {r1 r2 : Option XV} {nt nc ni nd np : Nat} (h : REL μ) (hd : RELd μ nt nc ni nd np) (hx : (fun r μ' => (μ 0 0 7 = 0 ∧ r = some (.inl (-6)) ∧ μ' = μ) ∨ (¬ μ 0 0 7 = 0 ∧ ¬ (inR a (xnp μ) ∧ inR y 7) ∧ r = some (.inl (-3)) ∧ μ' = μ) ∨ (¬ μ 0 0 7 = 0 ∧ ∃ j k, j < xnp μ ∧ k < 7 ∧ a = nI j ∧ y = nI k ∧ ∃ μ1, frS μ μ1 ∧ xCh μ1 (xChn μ j k) ∧ r = some (.inl (nI (xRun μ1 (xChn μ j k).length k (if k < 4 then b else 0) (xFl μ j k)).2.1)) ∧ μ' = mrun μ1 (nI k) (xFl μ j k) (xRun μ1 (xChn μ j k).length k (if k < 4 then b else 0) (xFl μ j k)))) r1 μ1) (hm : (fun (L0 : Nat → Int32) (μ : Mem) => (fun r μ' => (μ 24 0 0 = 0 ∧ r = some (.inl (-6)) ∧ μ' = μ) ∨ (¬ μ 24 0 0 = 0 ∧ ¬ (inR a (mnp μ) ∧ inR y 7) ∧ r = some (.inl (-3)) ∧ μ' = μ) ∨ (¬ μ 24 0 0 = 0 ∧ ∃ j k, j < mnp μ ∧ k < 7 ∧ a = nI j ∧ y = nI k ∧ frW μ μ' ∧ mInv L0 μ j k (if k < 4 then b else 0) r μ'))) (μ 23 0) μ1 r2 μ2) : ∃ x, r1 = some (.inl x) ∧ r2 = some (.inl x) ∧ REL μ2 := by
  have hdep := h.2.2.1
  rcases hx with ⟨c0, rfl, rfl⟩ | ⟨c0, cB, rfl, rfl⟩ | ⟨c0, j, k, hj, hk, ea, ey, μa, hs, hch, rfl, hμ1⟩
  · rcases hm with ⟨d0, rfl, rfl⟩ | ⟨d0, dB, rfl, rfl⟩ | ⟨d0, -⟩
    · exact ⟨_, rfl, rfl, h⟩
    · exact absurd (hdep.trans c0) d0
    · exact absurd (hdep.trans c0) d0
  · rcases hm with ⟨d0, rfl, rfl⟩ | ⟨d0, dB, rfl, rfl⟩ | ⟨d0, j2, k2, hj2, hk2, ea2, ey2, -⟩
    · exact absurd (hdep.symm.trans d0) c0
    · exact ⟨_, rfl, rfl, h⟩
    · rw [hd.vP] at cB
      rw [hd.wP] at hj2
      exact absurd ⟨⟨j2, hj2, ea2⟩, ⟨k2, hk2, ey2⟩⟩ cB
  · have hxx : fX μ μ1 := fun f hf => by rw [hμ1]; exact (mrun_f (by omega) (by omega)).trans (hs f (by omega))
    have hdep1 : μ1 24 0 0 = μ 0 0 7 := by rw [hxx 24 (by omega)]; exact hdep
    have enp : mnp μ1 = np := by rw [hxx.d.np]; exact hd.wP
    rw [hd.vP] at hj
    rw [enp] at hm
    have hnp := hd.P.1
    rcases hm with ⟨d0, hr, hmu⟩ | ⟨d0, dB, hr, hmu⟩ | ⟨d0, j2, k2, hj2, hk2, ea2, ey2, hm⟩
    · exact absurd (hdep1.symm.trans d0) c0
    · exact absurd ⟨⟨j, hj, ea⟩, ⟨k, hk, ey⟩⟩ dB
    · have : j2 = j := (nI_eq (by omega) (by omega)).mp (ea2.symm.trans ea)
      subst this
      have : k2 = k := (nI_eq (by omega) (by omega)).mp (ey2.symm.trans ey)
      subst this
      have ec := hd.chn hj hk
      obtain ⟨hw, hI⟩ := hm
      have eBh : ∀ x, mBh μ1 x = mBh μ x := fun x => by unfold mBh; rw [hxx 45 (by omega), hxx 40 (by omega)]
      obtain ⟨q, eq, hr, h1, h2, h3, h4, h5⟩ := hI (μa 20 0) (μa 21 0) (fun i x hx => by
        rw [hxx.d.chn, ec.1, List.getElem?_map] at hx
        obtain ⟨q, e1, e2⟩ := Option.map_eq_some_iff.mp hx
        subst e2
        have := hch.2 i q e1
        refine ⟨this.1, ?_⟩
        rw [eBh, this.2]
        exact ec.2 q (List.mem_of_getElem? e1))
      have eFz : mFz μ1 j2 k2 = xFl μ j2 k2 := by
        rw [xFl_m hd hj]
        unfold mFz
        rw [hxx 48 (by omega)]
      rw [hxx.d.chn, eFz, ec.1, List.length_map] at eq
      have e23 : μa 23 0 = μ 23 0 := by rw [hs 23 (by omega)]
      have eq2 : xRun μa (xChn μ j2 k2).length k2 (if k2 < 4 then b else 0) (xFl μ j2 k2) = q := by
        unfold xRun
        rw [eq, e23]
      rw [eq2] at hμ1 ⊢
      subst hμ1
      have hR := h.s hs
      obtain ⟨⟨nt', nc', ni', nd', np', hd'⟩, hl', h0', hn'⟩ := hR
      have ha : ∀ f, f ∈ [1, 2, 3, 4, 5, 6, 8, 10, 12, 13, 14, 32, 34, 35, 36, 38, 39, 40, 42, 43, 44, 45, 47, 48, 49, 50, 51, 52, 53] → μ2 f = μa f := fun f hf => (hw.1 f (by simp at hf; omega) (by simp at hf ⊢; omega)).trans (mrun_f (by simp at hf; omega) (by simp at hf; omega))
      have hc : μ2 0 = μa 0 := (hw.1 0 (by decide) (by decide)).trans (mrun_f (by decide) (by decide))
      have hb : ∀ j, j ∉ [24, 27, 30, 35, 37, 38, 39, 40, 41] → μ2 24 0 j = μa 24 0 j := fun j hj => (hw.2 0 j (fun z => hj z.2)).trans (by rw [mrun_f (by decide) (by decide)])
      refine ⟨_, rfl, hr, ⟨nt', nc', ni', nd', np', hd'.cg ha (fun j _ => by rw [hc]) (fun j hj => hb j (by simp at hj ⊢; omega))⟩, ⟨⟨q.2.1, h2, ?_, h1, fun i hi => ?_⟩, ?_, ?_⟩, ?_, fun z => (hn' ?_).cg ha (fun j _ => by rw [hc])⟩
      · rw [hw.1 22 (by decide) (by decide)]
        rfl
      · rw [h3 i hi, hw.1 23 (by decide) (by decide)]
        rfl
      · rw [h4, hw.1 22 (by decide) (by decide)]
        rfl
      · rw [h5, hw.1 22 (by decide) (by decide)]
        rfl
      · rw [hb 0 (by decide), hc]
        exact h0'
      · rw [hc] at z
        exact z

set_option maxHeartbeats 4000000 in
theorem rel_deploy {dummy : Int32} {μ μ1 μ2 : Mem} {r1 r2 : Option XV} {nt nc ni nd np : Nat} (h : REL μ) (hd : RELd μ nt nc ni nd np) (hx : (fun r μ' => (¬ μ 0 0 7 = 0 ∧ r = some (.inl (-2)) ∧ μ' = μ) ∨ (μ 0 0 7 = 0 ∧ ∃ x μ1, r = some (.inl x) ∧ frS μ μ1 ∧ xDep μ x ∧ μ' = mset μ1 0 0 7 (if x = 0 then 1 else 0))) r1 μ1) (hm : (fun (μ : Mem) => (fun r μ' => (¬ μ 24 0 0 = 0 ∧ r = some (.inl (-2)) ∧ μ' = μ) ∨ (μ 24 0 0 = 0 ∧ ∃ x μ1, r = some (.inl x) ∧ frL μ μ1 ∧ mDep μ x ∧ μ' = if x = 0 then mset μ1 24 0 0 1 else μ1)))  μ1 r2 μ2) : ∃ x, r1 = some (.inl x) ∧ r2 = some (.inl x) ∧ REL μ2 := by
  have hdep := h.2.2.1
  rcases hx with ⟨c0, rfl, rfl⟩ | ⟨c0, x, μa, rfl, hs, hD, rfl⟩
  · rcases hm with ⟨d0, rfl, rfl⟩ | ⟨d0, -⟩
    · exact ⟨_, rfl, rfl, h⟩
    · exact absurd (hdep.symm.trans d0) c0
  · have hxx : fX μ (mset μa 0 0 7 (if x = 0 then 1 else 0)) := fun f hf => (mset_f (by omega)).trans (hs f (by omega))
    have hdep1 : mset μa 0 0 7 (if x = 0 then 1 else 0) 24 0 0 = μ 0 0 7 := by rw [hxx 24 (by omega)]; exact hdep
    rcases hm with ⟨d0, hr, hmu⟩ | ⟨d0, x2, μb, rfl, hl, hM, rfl⟩
    · exact absurd (hdep1.trans c0) d0
    · have hnp := hd.P.1
      have hni := hd.I.1
      have hM : mDep μ x2 := by
        unfold mDep at hM ⊢
        simp only [hxx.d.ni, hxx.d.np, hxx.d.conf, hxx.d.chn] at hM
        rw [hxx 48 (by omega)] at hM
        exact hM
      have ex : x2 = x := by
        unfold mDep at hM
        unfold xDep at hD
        rw [hd.vI, hd.vP] at hD
        rw [hd.wI, hd.wP] at hM
        obtain ⟨x1, f1, hD⟩ := hD
        obtain ⟨y1, g1, hM⟩ := hM
        have e1 : x1 = y1 := f1.uniq g1 (fun i hi => hd.conf (hd.R.1 i hi)) (fun _ _ => rfl)
        subst e1
        rcases hD with ⟨n1, rfl⟩ | ⟨z1, x2', f2, hD⟩
        · rcases hM with ⟨-, e⟩ | ⟨z1, -⟩
          · exact e
          · exact absurd z1 n1
        · rcases hM with ⟨n1, -⟩ | ⟨-, y2, g2, hM⟩
          · exact absurd z1 n1
          · have e2 : x2' = y2 := f2.uniq g2 (fun q hq => hd.conf (hd.R.2 q hq).1) (fun _ _ => rfl)
            subst e2
            rcases hD with ⟨n1, rfl⟩ | ⟨z2, f3⟩
            · rcases hM with ⟨-, e⟩ | ⟨z2, -⟩
              · exact e
              · exact absurd z2 n1
            · rcases hM with ⟨n1, -⟩ | ⟨-, g3⟩
              · exact absurd z2 n1
              · refine (f3.uniq g3 (fun k hk => ?_) (fun _ _ => rfl)).symm
                have e3 := (hd.P.2.2.2 (k / 4) (by omega)).2 (k % 4) (by omega)
                rw [show 4 * (k / 4) + k % 4 = k by omega] at e3
                rw [e3, and1_i, (hd.chn (j := k / 4) (k := k % 4) (by omega) (by omega)).1, List.length_map]
      subst ex
      have hR := h.s hs
      obtain ⟨⟨nt', nc', ni', nd', np', hd'⟩, hl', h0', hn'⟩ := hR
      have ha1 : ∀ f, f ∈ [1, 2, 3, 4, 5, 6, 8, 10, 12, 13, 14, 32, 34, 35, 36, 38, 39, 40, 42, 43, 44, 45, 47, 48, 49, 50, 51, 52, 53] → mset μa 0 0 7 (if x2 = 0 then 1 else 0) f = μa f := fun f hf => mset_f (by simp at hf; omega)
      have hz1 : ∀ j, j ∈ [2, 4, 6] → mset μa 0 0 7 (if x2 = 0 then 1 else 0) 0 0 j = μa 0 0 j := fun j hj => mset_j (by simp at hj; omega)
      have a24 : ∀ j, j ∉ [24, 27, 30] → μb 24 0 j = μa 24 0 j := fun j hj => (hl.2 0 j (fun z => hj z.2)).trans (by rw [mset_f (by decide)])
      have ha : ∀ f, f ∈ [1, 2, 3, 4, 5, 6, 8, 10, 12, 13, 14, 32, 34, 35, 36, 38, 39, 40, 42, 43, 44, 45, 47, 48, 49, 50, 51, 52, 53] → μb f = μa f := fun f hf => (hl.1 f (by simp at hf; omega) (by simp at hf ⊢; omega)).trans (ha1 f hf)
      have hb0 : μb 0 = mset μa 0 0 7 (if x2 = 0 then 1 else 0) 0 := hl.1 0 (by decide) (by decide)
      have hzb : ∀ j, j ∈ [2, 4, 6] → μb 0 0 j = μa 0 0 j := fun j hj => by rw [hb0]; exact hz1 j hj
      have h7 : μb 0 0 7 = (if x2 = 0 then 1 else 0) := by rw [hb0]; exact mset_at _ _ _ _ _
      have hlb : relL μb := hl'.cg ((hl.1 22 (by decide) (by decide)).trans (mset_f (by decide))) ((hl.1 23 (by decide) (by decide)).trans (mset_f (by decide))) ((hl.1 66 (by decide) (by decide)).trans (mset_f (by decide))) (fun j hj => a24 j (by simp at hj ⊢; omega))
      have hdb : RELd μb nt' nc' ni' nd' np' := hd'.cg ha hzb (fun j hj => a24 j (by simp at hj ⊢; omega))
      by_cases e0 : x2 = 0
      · subst e0
        rw [if_pos rfl] at h7 ⊢
        refine ⟨_, rfl, rfl, ⟨nt', nc', ni', nd', np', hdb.cg (fun f hf => mset_f (by simp at hf; omega)) (fun j _ => by rw [mset_f (by decide)]) (fun j hj => mset_j (by simp at hj; omega))⟩, hlb.cg (mset_f (by decide)) (mset_f (by decide)) (mset_f (by decide)) (fun j hj => mset_j (by simp at hj; omega)), ?_, fun _ => ?_⟩
        · rw [mset_at, mset_f (by decide), h7]
        · have := xDep_nc hd.xwf hD
          exact ((this.cg (fun f hf => hs f (by simp at hf; omega)) (fun j _ => by rw [hs 0 (by omega)])).cg ha hzb).cg (fun f hf => mset_f (by simp at hf; omega)) (fun j _ => by rw [mset_f (by decide)])
      · rw [if_neg e0] at h7 ⊢
        refine ⟨_, rfl, rfl, ⟨nt', nc', ni', nd', np', hdb⟩, hlb, ?_, fun z => absurd h7 z⟩
        rw [a24 0 (by decide), h0', h7, hs 0 (by omega)]
        exact c0

set_option maxHeartbeats 4000000 in
theorem rel_clear {μ μ1 μ2 : Mem} {r1 r2 : Option XV} (hx : (fun r μ' => r = none ∧ μ' = mset (mset (mset (mset (mset (mset (mset (mset (mset μ 1 0 0 0) 4 0 0 0) 0 0 2 0) 0 0 4 0) 0 0 6 0) 0 0 7 0) 22 0 1 0) 22 0 2 0) 22 0 3 0) r1 μ1) (hm : (fun (μ : Mem) => (fun r μ' => r = none ∧ frG [48, 49, 52] [0, 1, 3, 7, 11, 16, 35, 37, 38] μ μ' ∧ (∀ j, j ∈ [0, 1, 3, 7, 11, 16, 35, 37, 38] → μ' 24 0 j = 0) ∧ (∀ r, r < 28 → μ' 49 0 r = 0 ∧ μ' 52 0 r = 0) ∧ ∀ r, r < 16 → μ' 48 0 r = 0)) μ1 r2 μ2) : r1 = none ∧ r2 = none ∧ REL μ2 := by
  obtain ⟨rfl, rfl⟩ := hx
  obtain ⟨rfl, hw, h1, h2, h3⟩ := hm
  have e : ∀ f, f ≠ 24 → f ∉ [48, 49, 52] → μ2 f = _ := fun f a b => hw.1 f a b
  have z : ∀ j, j ∈ [0, 1, 3, 7, 11, 16, 35, 37, 38] → μ2 24 0 j = 0 := h1
  refine ⟨rfl, rfl, ⟨0, 0, 0, 0, 0, ⟨by omega, ?_, z 1 (by decide), fun t ht => by omega⟩, ⟨by omega, ?_, z 3 (by decide), fun t ht => by omega⟩, ⟨by omega, ?_, z 7 (by decide), fun t ht => by omega⟩, ⟨by omega, ?_, z 11 (by decide), fun t ht => by omega⟩, ⟨by omega, ?_, z 16 (by decide), fun t ht => by omega⟩, ⟨fun i hi => by omega, fun q hq => by omega⟩, ⟨fun i _ hi => (h2 i (by omega)).1, fun q _ hq => h2 _ (rq_lt hq), fun k _ hk => h3 k hk⟩⟩, ⟨⟨0, by omega, ?_, z 35 (by decide), fun i hi => by omega⟩, ?_, ?_⟩, ?_, fun w => absurd ?_ w⟩
  · rw [e 1 (by decide) (by decide)]; rfl
  · rw [e 4 (by decide) (by decide)]; rfl
  · rw [e 0 (by decide) (by decide)]; rfl
  · rw [e 0 (by decide) (by decide)]; rfl
  · rw [e 0 (by decide) (by decide)]; rfl
  · rw [e 22 (by decide) (by decide)]; rfl
  · rw [z 37 (by decide), e 22 (by decide) (by decide)]; rfl
  · rw [z 38 (by decide), e 22 (by decide) (by decide)]; rfl
  · rw [z 0 (by decide), e 0 (by decide) (by decide)]; rfl
  · rw [e 0 (by decide) (by decide)]; rfl

theorem REL_0 {μ : Mem} (h : ∀ f i j, μ f i j = 0) : REL μ := by
  refine ⟨⟨0, 0, 0, 0, 0, ⟨by omega, h _ _ _, h _ _ _, fun t ht => by omega⟩, ⟨by omega, h _ _ _, h _ _ _, fun t ht => by omega⟩, ⟨by omega, h _ _ _, h _ _ _, fun t ht => by omega⟩, ⟨by omega, h _ _ _, h _ _ _, fun t ht => by omega⟩, ⟨by omega, h _ _ _, h _ _ _, fun t ht => by omega⟩, ⟨fun i hi => by omega, fun q hq => by omega⟩, ⟨fun i _ hi => h _ _ _, fun q _ hq => ⟨h _ _ _, h _ _ _⟩, fun k _ hk => h _ _ _⟩⟩, ⟨⟨0, by omega, h _ _ _, h _ _ _, fun i hi => by omega⟩, by rw [h, h], by rw [h, h]⟩, by rw [h, h], fun w => absurd (h _ _ _) w⟩
