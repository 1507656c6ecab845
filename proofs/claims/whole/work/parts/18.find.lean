/-- the first k below n of which P is said, by f; else 0 -/
def firstN (P : Nat → Prop) (n : Nat) (f : Nat → Int32) (x : Int32) : Prop := (∃ k, k < n ∧ P k ∧ (∀ k', k' < k → ¬ P k') ∧ x = f k) ∨ ((∀ k, k < n → ¬ P k) ∧ x = 0)
theorem firstN.none {P : Nat → Prop} {n : Nat} {f : Nat → Int32} {x : Int32} (h : firstN P n f x) (hf : ∀ k, k < n → f k ≠ 0) (hx : x = 0) : ∀ k, k < n → ¬ P k := by
  rcases h with ⟨k, hk, -, -, e⟩ | ⟨h, -⟩
  · exact absurd (e.symm.trans hx) (hf k hk)
  · exact h
theorem firstN.uniq {P P' : Nat → Prop} {n : Nat} {f f' : Nat → Int32} {x x' : Int32} (h : firstN P n f x) (h' : firstN P' n f' x') (hp : ∀ k, k < n → (P k ↔ P' k)) (hf : ∀ k, k < n → f k = f' k) : x = x' := by
  rcases h with ⟨k, hk, h1, h2, e⟩ | ⟨h1, e⟩
  · rcases h' with ⟨k', hk', h1', h2', e'⟩ | ⟨h1', e'⟩
    · have : k = k' := by
        rcases Nat.lt_trichotomy k k' with q | q | q
        · exact absurd ((hp k hk).mp h1) (h2' k q)
        · exact q
        · exact absurd ((hp k' hk').mpr h1') (h2 k' q)
      subst this
      rw [e, e', hf k hk]
    · exact absurd ((hp k hk).mp h1) (h1' k hk)
  · rcases h' with ⟨k', hk', h1', h2', e'⟩ | ⟨h1', e'⟩
    · exact absurd ((hp k' hk').mpr h1') (h1 k' hk')
    · rw [e, e']
theorem lt4 {k : Nat} (h : k < 4) : nI k < 4 := nI_lt (b := 4) h (by omega)
theorem nI_nz {k : Nat} (h : k ≤ 1000) (h0 : 0 < k) : nI k ≠ 0 := fun q => nI_ne0 h0 (by omega) q

set_option maxRecDepth 100000 in
set_option maxHeartbeats 4000000 in
/-- X9 findConflictOfInterceptor -/
theorem k_X9_findConflictOfInterceptor (l : Launch) (G : XG) (hI : XI G)  (μ : Mem) (hw : xWF μ) : XMet l G y_X9_findConflictOfInterceptor c_X9_findConflictOfInterceptor 2 (some .int) 3 [.inr (0, 0)] μ (fun r μ' => ∃ x : Int32, r = some (.inl x) ∧ firstN (fun i => xConf μ (i + 1)) (xni μ) (fun i => nI (100 + i)) x ∧ frS μ μ') := by
  refine xj_met (by decide) hI (Nat.le_of_ble_eq_true rfl) ?_
  intro p e s m args below meth c E hr hlk
  have E : XE G (xA G) RX9 c_X9_findConflictOfInterceptor 2 p s m args c := E
  refine xj_loc (L' := [some (.inr (0, 0)), none]) rfl ?_
  have hni := hw.2.1
  have lp : ∀ (Q : State → Prop) (n k : Nat) (μ1 : Mem), xni μ - k = n → k ≤ xni μ → frS μ μ1 → (∀ i, i < k → ¬ xConf μ (i + 1)) → (∀ μ2, frS μ μ2 → (∀ i, i < xni μ → ¬ xConf μ (i + 1)) → XJ G (xA G) 2 p l e (xr 3) s m args below meth c 0 0 Q 37 [some (.inr (0, 0)), some (.inl (nI (xni μ)))] [] μ2) → (∀ k μ2, frS μ μ2 → k < xni μ → xConf μ (k + 1) → (∀ i, i < k → ¬ xConf μ (i + 1)) → XJ G (xA G) 2 p l e (xr 3) s m args below meth c 0 0 Q 26 [some (.inr (0, 0)), some (.inl (nI k))] [] μ2) → XJ G (xA G) 2 p l e (xr 3) s m args below meth c 0 0 Q 2 [some (.inr (0, 0)), some (.inl (nI k))] [] μ1 := by
    intro Q n
    induction n using Nat.strongRecOn with
    | _ n ih =>
    intro k μ1 hn hk hfr hinv hx hy
    have e2 : μ1 0 0 2 = nI (xni μ) := by rw [hfr 0 (by omega)]; exact hni.1
    refine xj_iload_n E d_X9_findConflictOfInterceptor_2 rfl ?_
    refine xj_aload_n E d_X9_findConflictOfInterceptor_3 rfl ?_
    refine xj_geti E fl_X9_64 (by decide) rfl (by decide) rfl d_X9_findConflictOfInterceptor_4 ?_
    refine xj_icmp_ge (tgt := 37) E d_X9_findConflictOfInterceptor_7 (by decide) (fun h7 => ?_) (fun h7 => ?_)
    · have hk8 : k = xni μ := by
        have := ge_nI (b := k) (by rw [← e2]; exact h7) (by omega) (by omega)
        omega
      subst hk8
      exact hx _ hfr hinv
    have hlt : k < xni μ := ng_nI (b := k) (by rw [← e2]; exact h7) (by omega) (by omega)
    refine xj_aload_n E d_X9_findConflictOfInterceptor_10 rfl ?_
    refine xj_aload_n E d_X9_findConflictOfInterceptor_11 rfl ?_
    refine xj_geta E fl_X9_18 (by decide) rfl (by decide) rfl d_X9_findConflictOfInterceptor_12 ?_
    refine xj_iload_n E d_X9_findConflictOfInterceptor_15 rfl ?_
    refine xj_aald E (by decide) rfl (show vp_in (nI k) 8 from in_nI (by omega) (by omega)) d_X9_findConflictOfInterceptor_16 ?_
    refine xj_st (st' := [.inr (8, k), .inr (0, 0)]) (by rw [cl_nI (by omega)]; try rfl) ?_
    refine xj_geta E fl_X9_119 (by decide) rfl (by decide) rfl d_X9_findConflictOfInterceptor_17 ?_
    refine xj_callV E (k_X9_hasConflict l G hI (k + 1) (xnt μ) _ (by rw [hfr.typ]; exact hw.1) (by rw [hfr.row]; exact hw.2.2.2.2.1 k hlt)) cw_X9_195 cv_X9_hasConflict (by decide) rfl rfl rfl ⟨by decide, by decide⟩ (Nat.le_of_ble_eq_true rfl) d_X9_findConflictOfInterceptor_20 ⟨by decide, by decide⟩ (fun r20 μ20 ho20 hp20 => ?_)
    obtain ⟨x, rfl, hx01, hxi, hfr2⟩ := hp20
    rw [hfr.conf] at hxi
    refine xj_st (st' := [.inl x]) rfl ?_
    refine xj_if_eq (tgt := 31) E d_X9_findConflictOfInterceptor_23 (by decide) (fun h23 => ?_) (fun h23 => ?_)
    · refine xj_iinc (v := nI (k + 1)) E d_X9_findConflictOfInterceptor_31 rfl (nI_inc k) rfl ?_
      refine xj_goto (tgt := 2) E d_X9_findConflictOfInterceptor_34 (by decide) ?_
      exact ih (xni μ - (k + 1)) (by omega) (k + 1) _ rfl (by omega) (hfr.tr hfr2) (fun i hi => by
        by_cases q : i = k
        · subst q; intro z; rw [h23] at hxi; exact i0_1 (hxi.mpr z)
        · exact hinv i (by omega)) hx hy
    exact hy k _ (hfr.tr hfr2) hlt (hxi.mp (hx01.resolve_left h23)) hinv
  refine xj_iconst (v := 0) E d_X9_findConflictOfInterceptor_0 (by decide) ?_
  refine xj_istore_n E d_X9_findConflictOfInterceptor_1 (by decide) rfl ?_
  refine lp _ (xni μ) 0 μ (by omega) (by omega) (frS.rf μ) (fun i hi => by omega) (fun μ2 hfr2 hno => ?_) (fun k μ2 hfr2 hk hyes hno => ?_)
  · refine xj_iconst (v := 0) E d_X9_findConflictOfInterceptor_37 (by decide) ?_
    exact xj_iret E hr hlk d_X9_findConflictOfInterceptor_38 ⟨0, rfl, Or.inr ⟨hno, rfl⟩, hfr2⟩
  · refine xj_bipush (v := 100) E d_X9_findConflictOfInterceptor_26 (by decide) ?_
    refine xj_iload_n E d_X9_findConflictOfInterceptor_28 rfl ?_
    refine xj_iadd E d_X9_findConflictOfInterceptor_29 ?_
    exact xj_iret E hr hlk d_X9_findConflictOfInterceptor_30 ⟨_, rfl, Or.inl ⟨k, hk, hyes, hno, (nI_add 100 k)⟩, hfr2⟩

set_option maxRecDepth 100000 in
set_option maxHeartbeats 4000000 in
/-- X9 findConflictOfComponent -/
theorem k_X9_findConflictOfComponent (l : Launch) (G : XG) (hI : XI G)  (μ : Mem) (hw : xWF μ) : XMet l G y_X9_findConflictOfComponent c_X9_findConflictOfComponent 3 (some .int) 3 [.inr (0, 0)] μ (fun r μ' => ∃ x : Int32, r = some (.inl x) ∧ firstN (fun q => xConf μ (q + 9)) (5 * xnp μ) (fun q => nI (200 + 8 * (q / 5) + q % 5)) x ∧ frS μ μ') := by
  refine xj_met (by decide) hI (Nat.le_of_ble_eq_true rfl) ?_
  intro p e s m args below meth c E hr hlk
  have E : XE G (xA G) RX9 c_X9_findConflictOfComponent 3 p s m args c := E
  refine xj_loc (L' := [some (.inr (0, 0)), none, none]) rfl ?_
  have hnp := hw.2.2.2.1
  have lp2 : ∀ (Q : State → Prop) (j n k : Nat) (μ1 : Mem), j < xnp μ → 4 - k = n → k ≤ 4 → frS μ μ1 → (∀ z, z < 5 * j + 1 + k → ¬ xConf μ (z + 9)) → (∀ μ2, frS μ μ2 → (∀ z, z < 5 * (j + 1) → ¬ xConf μ (z + 9)) → XJ G (xA G) 3 p l e (xr 3) s m args below meth c 0 0 Q 82 [some (.inr (0, 0)), some (.inl (nI j)), none] [] μ2) → (∀ q μ2 x, frS μ μ2 → q < 5 * xnp μ → xConf μ (q + 9) → (∀ z, z < q → ¬ xConf μ (z + 9)) → x = nI (200 + 8 * (q / 5) + q % 5) → ∀ L, L.length = 3 → XJ G (xA G) 3 p l e (xr 3) s m args below meth c 0 0 Q 37 L [.inl x] μ2 ∧ XJ G (xA G) 3 p l e (xr 3) s m args below meth c 0 0 Q 75 L [.inl x] μ2) → XJ G (xA G) 3 p l e (xr 3) s m args below meth c 0 0 Q 40 [some (.inr (0, 0)), some (.inl (nI j)), some (.inl (nI k))] [] μ1 := by
    intro Q j n
    induction n using Nat.strongRecOn with
    | _ n ih =>
    intro k μ1 hj hn hk hfr hinv hx hy
    refine xj_iload_n E d_X9_findConflictOfComponent_40 rfl ?_
    refine xj_iconst (v := 4) E d_X9_findConflictOfComponent_41 (by decide) ?_
    refine xj_icmp_ge (tgt := 82) E d_X9_findConflictOfComponent_42 (by decide) (fun h42 => ?_) (fun h42 => ?_)
    · have hk8 : k = 4 := by
        have := ge_nI (a := 4) h42 (by omega) (by omega)
        omega
      subst hk8
      refine xj_forget 2 ?_
      exact hx _ hfr (fun q hq => hinv q (by omega))
    have hlt : k < 4 := ng_nI (a := 4) h42 (by omega) (by omega)
    refine xj_aload_n E d_X9_findConflictOfComponent_45 rfl ?_
    refine xj_aload_n E d_X9_findConflictOfComponent_46 rfl ?_
    refine xj_geta E fl_X9_32 (by decide) rfl (by decide) rfl d_X9_findConflictOfComponent_47 ?_
    refine xj_iload_n E d_X9_findConflictOfComponent_50 rfl ?_
    refine xj_aald E (by decide) rfl (show vp_in (nI j) 4 from in_nI (by omega) (by omega)) d_X9_findConflictOfComponent_51 ?_
    refine xj_st (st' := [.inr (12, j), .inr (0, 0)]) (by rw [cl_nI (by omega)]; try rfl) ?_
    refine xj_iload_n E d_X9_findConflictOfComponent_52 rfl ?_
    refine xj_callV E (k_X4_place l G hI j (nI k) _) cw_X9_129 cv_X4_place (by decide) rfl rfl rfl ⟨by decide, by decide⟩ (Nat.le_of_ble_eq_true rfl) d_X9_findConflictOfComponent_53 ⟨by decide, by decide⟩ (fun r53 μ53 ho53 hp53 => ?_)
    obtain ⟨rfl, hm53⟩ := hp53
    refine xj_mem hm53 ?_
    refine xj_st (st' := [.inr (13, 5 * j + 1 + k), .inr (0, 0)]) (by rw [if_neg (nI_pos (by omega)), if_pos (lt4 hlt), cl_nI (by omega)]; try rfl) ?_
    refine xj_geta E fl_X9_133 (by decide) rfl (by decide) rfl d_X9_findConflictOfComponent_56 ?_
    refine xj_callV E (k_X9_hasConflict l G hI (5 * j + 1 + k + 9) (xnt μ) _ (by rw [hfr.typ]; exact hw.1) (by rw [hfr.row]; exact (hw.2.2.2.2.2 _ (by omega)).1)) cw_X9_195 cv_X9_hasConflict (by decide) rfl rfl rfl ⟨by decide, by decide⟩ (Nat.le_of_ble_eq_true rfl) d_X9_findConflictOfComponent_59 ⟨by decide, by decide⟩ (fun r59 μ59 ho59 hp59 => ?_)
    obtain ⟨x, rfl, hx01, hxi, hfr2⟩ := hp59
    rw [hfr.conf] at hxi
    refine xj_st (st' := [.inl x]) rfl ?_
    refine xj_if_eq (tgt := 76) E d_X9_findConflictOfComponent_62 (by decide) (fun h62 => ?_) (fun h62 => ?_)
    · refine xj_iinc (v := nI (k + 1)) E d_X9_findConflictOfComponent_76 rfl (nI_inc k) rfl ?_
      refine xj_goto (tgt := 40) E d_X9_findConflictOfComponent_79 (by decide) ?_
      exact ih (4 - (k + 1)) (by omega) (k + 1) _ hj rfl (by omega) (hfr.tr hfr2) (fun q hq => by
        by_cases z : q = 5 * j + 1 + k
        · subst z; intro z; rw [h62] at hxi; exact i0_1 (hxi.mpr z)
        · exact hinv q (by omega)) hx hy
    refine xj_sipush (v := 201) E d_X9_findConflictOfComponent_65 (by decide) ?_
    refine xj_bipush (v := 8) E d_X9_findConflictOfComponent_68 (by decide) ?_
    refine xj_iload_n E d_X9_findConflictOfComponent_70 rfl ?_
    refine xj_imul E d_X9_findConflictOfComponent_71 ?_
    refine xj_iadd E d_X9_findConflictOfComponent_72 ?_
    refine xj_iload_n E d_X9_findConflictOfComponent_73 rfl ?_
    refine xj_iadd E d_X9_findConflictOfComponent_74 ?_
    refine (hy (5 * j + 1 + k) _ _ (hfr.tr hfr2) (by omega) (hxi.mp (hx01.resolve_left h62)) hinv ?_ _ rfl).2
    rw [show (5 * j + 1 + k) / 5 = j by omega, show (5 * j + 1 + k) % 5 = 1 + k by omega]
    rw [show nI (200 + 8 * j + (1 + k)) = nI (201 + 8 * j + k) by congr 1; omega, ← nI_add, ← nI_add, ← pk_mul]
    rfl
  have lp1 : ∀ (Q : State → Prop) (n j : Nat) (μ1 : Mem), xnp μ - j = n → j ≤ xnp μ → frS μ μ1 → (∀ z, z < 5 * j → ¬ xConf μ (z + 9)) → (∀ μ2, frS μ μ2 → (∀ z, z < 5 * xnp μ → ¬ xConf μ (z + 9)) → XJ G (xA G) 3 p l e (xr 3) s m args below meth c 0 0 Q 88 [some (.inr (0, 0)), some (.inl (nI (xnp μ))), none] [] μ2) → (∀ q μ2 x, frS μ μ2 → q < 5 * xnp μ → xConf μ (q + 9) → (∀ z, z < q → ¬ xConf μ (z + 9)) → x = nI (200 + 8 * (q / 5) + q % 5) → ∀ L, L.length = 3 → XJ G (xA G) 3 p l e (xr 3) s m args below meth c 0 0 Q 37 L [.inl x] μ2 ∧ XJ G (xA G) 3 p l e (xr 3) s m args below meth c 0 0 Q 75 L [.inl x] μ2) → XJ G (xA G) 3 p l e (xr 3) s m args below meth c 0 0 Q 2 [some (.inr (0, 0)), some (.inl (nI j)), none] [] μ1 := by
    intro Q n
    induction n using Nat.strongRecOn with
    | _ n ih =>
    intro j μ1 hn hj hfr hinv hx hy
    have e2 : μ1 0 0 6 = nI (xnp μ) := by rw [hfr 0 (by omega)]; exact hnp.1
    refine xj_iload_n E d_X9_findConflictOfComponent_2 rfl ?_
    refine xj_aload_n E d_X9_findConflictOfComponent_3 rfl ?_
    refine xj_geti E fl_X9_71 (by decide) rfl (by decide) rfl d_X9_findConflictOfComponent_4 ?_
    refine xj_icmp_ge (tgt := 88) E d_X9_findConflictOfComponent_7 (by decide) (fun h7 => ?_) (fun h7 => ?_)
    · have hk8 : j = xnp μ := by
        have := ge_nI (b := j) (by rw [← e2]; exact h7) (by omega) (by omega)
        omega
      subst hk8
      exact hx _ hfr hinv
    have hlt : j < xnp μ := ng_nI (b := j) (by rw [← e2]; exact h7) (by omega) (by omega)
    refine xj_aload_n E d_X9_findConflictOfComponent_10 rfl ?_
    refine xj_aload_n E d_X9_findConflictOfComponent_11 rfl ?_
    refine xj_geta E fl_X9_32 (by decide) rfl (by decide) rfl d_X9_findConflictOfComponent_12 ?_
    refine xj_iload_n E d_X9_findConflictOfComponent_15 rfl ?_
    refine xj_aald E (by decide) rfl (show vp_in (nI j) 4 from in_nI (by omega) (by omega)) d_X9_findConflictOfComponent_16 ?_
    refine xj_st (st' := [.inr (12, j), .inr (0, 0)]) (by rw [cl_nI (by omega)]; try rfl) ?_
    refine xj_geta E fl_X9_199 (by decide) rfl (by decide) rfl d_X9_findConflictOfComponent_17 ?_
    refine xj_geta E fl_X9_133 (by decide) rfl (by decide) rfl d_X9_findConflictOfComponent_20 ?_
    refine xj_callV E (k_X9_hasConflict l G hI (5 * j + 9) (xnt μ) _ (by rw [hfr.typ]; exact hw.1) (by rw [hfr.row]; exact (hw.2.2.2.2.2 _ (by omega)).1)) cw_X9_195 cv_X9_hasConflict (by decide) rfl rfl rfl ⟨by decide, by decide⟩ (Nat.le_of_ble_eq_true rfl) d_X9_findConflictOfComponent_23 ⟨by decide, by decide⟩ (fun r23 μ23 ho23 hp23 => ?_)
    obtain ⟨x, rfl, hx01, hxi, hfr2⟩ := hp23
    rw [hfr.conf] at hxi
    refine xj_st (st' := [.inl x]) rfl ?_
    refine xj_if_eq (tgt := 38) E d_X9_findConflictOfComponent_26 (by decide) (fun h26 => ?_) (fun h26 => ?_)
    · refine xj_iconst (v := 0) E d_X9_findConflictOfComponent_38 (by decide) ?_
      refine xj_istore_n E d_X9_findConflictOfComponent_39 (by decide) rfl ?_
      refine lp2 Q j 4 0 _ hlt rfl (by omega) (hfr.tr hfr2) (fun q hq => by
        by_cases z : q = 5 * j
        · subst z; intro z; rw [h26] at hxi; exact i0_1 (hxi.mpr z)
        · exact hinv q (by omega)) (fun μ2 hfr3 hno => ?_) hy
      refine xj_iinc (v := nI (j + 1)) E d_X9_findConflictOfComponent_82 rfl (nI_inc j) rfl ?_
      refine xj_goto (tgt := 2) E d_X9_findConflictOfComponent_85 (by decide) ?_
      exact ih (xnp μ - (j + 1)) (by omega) (j + 1) _ rfl (by omega) hfr3 hno hx hy
    refine xj_sipush (v := 200) E d_X9_findConflictOfComponent_29 (by decide) ?_
    refine xj_bipush (v := 8) E d_X9_findConflictOfComponent_32 (by decide) ?_
    refine xj_iload_n E d_X9_findConflictOfComponent_34 rfl ?_
    refine xj_imul E d_X9_findConflictOfComponent_35 ?_
    refine xj_iadd E d_X9_findConflictOfComponent_36 ?_
    refine (hy (5 * j) _ _ (hfr.tr hfr2) (by omega) (hxi.mp (hx01.resolve_left h26)) hinv ?_ _ rfl).1
    rw [show (5 * j) / 5 = j by omega, show (5 * j) % 5 = 0 by omega]
    rw [show 200 + 8 * j + 0 = 200 + 8 * j by omega, ← nI_add, ← pk_mul]
    rfl
  refine xj_iconst (v := 0) E d_X9_findConflictOfComponent_0 (by decide) ?_
  refine xj_istore_n E d_X9_findConflictOfComponent_1 (by decide) rfl ?_
  refine lp1 _ (xnp μ) 0 μ (by omega) (by omega) (frS.rf μ) (fun q hq => by omega) (fun μ2 hfr2 hno => ?_) (fun q μ2 x hfr2 hq hyes hno hxe L0 hL0 => ⟨?_, ?_⟩)
  · refine xj_iconst (v := 0) E d_X9_findConflictOfComponent_88 (by decide) ?_
    exact xj_iret E hr hlk d_X9_findConflictOfComponent_89 ⟨0, rfl, Or.inr ⟨hno, rfl⟩, hfr2⟩
  · exact xj_iret E hr hlk d_X9_findConflictOfComponent_37 ⟨_, rfl, Or.inl ⟨q, hq, hyes, hno, hxe⟩, hfr2⟩
  · exact xj_iret E hr hlk d_X9_findConflictOfComponent_75 ⟨_, rfl, Or.inl ⟨q, hq, hyes, hno, hxe⟩, hfr2⟩

theorem frS.fp {μ μ' : Mem} (h : frS μ μ') (j mm : Nat) : xFP μ' j mm = xFP μ j mm := by
  funext t v
  unfold xFP
  rw [h.pair, h.pair]
theorem frS.chn {μ μ' : Mem} (h : frS μ μ') (j mm : Nat) : xChn μ' j mm = xChn μ j mm := by
  unfold xChn
  rw [h.ls, h.ls, h.ls, h.nl, h.nl, h.ei, h.ed, h.bx, h.bx, h.bd, h.fp, h.ni, h.nd, h 13 (by omega), h 12 (by omega)]
theorem xChn_len {μ : Mem} (hw : xWF μ) {j mm : Nat} (hj : j < xnp μ) : 1 ≤ (xChn μ j mm).length ∧ (xChn μ j mm).length ≤ 21 := by
  have hni := hw.2.1.2
  have hnd := hw.2.2.1.2
  have hq0 := (hw.2.2.2.2.2 (5 * j) (by omega)).2.1.2
  unfold xChn
  split
  · rename_i h4
    have hq1 := (hw.2.2.2.2.2 (5 * j + 1 + mm) (by omega)).2.1.2
    have h1 := xLs_len μ (5 * j) 1 (xnl μ (5 * j))
    have h2 := xLs_len μ (5 * j + 1 + mm) 1 (xnl μ (5 * j + 1 + mm))
    have h3 := sel_len (n := xni μ) (i := 0) (bdX_u μ (xFP μ j mm) 1) (Nat.le_refl 9) (by omega) (Or.inr rfl)
    have h4 := sel_len (n := xnd μ) (i := 0) (bdD_u μ (μ 12 j 0) (nI mm)) (Nat.le_refl 9) (by omega) (Or.inr rfl)
    split <;> simp only [List.length_append, List.length_map, List.length_cons, List.length_nil] <;> omega
  · have h1 := xLs_len μ (5 * j) ((2 : Int32) <<< ((nI mm - 4) &&& 31)) (xnl μ (5 * j))
    have h3 := sel_len (n := xni μ) (i := 0) (bdX_u μ (xFP μ j mm) ((2 : Int32) <<< ((nI mm - 4) &&& 31))) (Nat.le_refl 9) (by omega) (Or.inr rfl)
    simp only [List.length_append, List.length_map, List.length_cons, List.length_nil]
    omega

set_option maxRecDepth 100000 in
set_option maxHeartbeats 4000000 in
/-- X9 findFinalWithChain -/
theorem k_X9_findFinalWithChain (l : Launch) (G : XG) (hI : XI G)  (μ : Mem) (hw : xWF μ) (hnc : xNC μ) : XMet l G y_X9_findFinalWithChain c_X9_findFinalWithChain 3 (some .int) 5 [.inr (0, 0)] μ (fun r μ' => ∃ x : Int32, r = some (.inl x) ∧ firstN (fun k => (¬ μ 13 (5 * (k / 4) + 1 + k % 4) 3 &&& 1 = 0 ∧ 1 < (xChn μ (k / 4) (k % 4)).length)) (4 * xnp μ) (fun k => nI (300 + k)) x ∧ frS μ μ') := by
  refine xj_met (by decide) hI (Nat.le_of_ble_eq_true rfl) ?_
  intro p e s m args below meth c E hr hlk
  have E : XE G (xA G) RX9 c_X9_findFinalWithChain 3 p s m args c := E
  refine xj_loc (L' := [some (.inr (0, 0)), none, none]) rfl ?_
  have hnp := hw.2.2.2.1
  have lp2 : ∀ (Q : State → Prop) (j n k : Nat) (μ1 : Mem), j < xnp μ → 4 - k = n → k ≤ 4 → frS μ μ1 → (∀ q, q < 4 * j + k → ¬ (¬ μ 13 (5 * (q / 4) + 1 + q % 4) 3 &&& 1 = 0 ∧ 1 < (xChn μ (q / 4) (q % 4)).length)) → (∀ μ2, frS μ μ2 → (∀ q, q < 4 * (j + 1) → ¬ (¬ μ 13 (5 * (q / 4) + 1 + q % 4) 3 &&& 1 = 0 ∧ 1 < (xChn μ (q / 4) (q % 4)).length)) → XJ G (xA G) 3 p l e (xr 5) s m args below meth c 0 0 Q 72 [some (.inr (0, 0)), some (.inl (nI j)), none] [] μ2) → (∀ q μ2 x, frS μ μ2 → q < 4 * xnp μ → (¬ μ 13 (5 * (q / 4) + 1 + q % 4) 3 &&& 1 = 0 ∧ 1 < (xChn μ (q / 4) (q % 4)).length) → (∀ k, k < q → ¬ (¬ μ 13 (5 * (k / 4) + 1 + k % 4) 3 &&& 1 = 0 ∧ 1 < (xChn μ (k / 4) (k % 4)).length)) → x = nI (300 + q) → ∀ L, L.length = 3 → XJ G (xA G) 3 p l e (xr 5) s m args below meth c 0 0 Q 65 L [.inl x] μ2) → XJ G (xA G) 3 p l e (xr 5) s m args below meth c 0 0 Q 12 [some (.inr (0, 0)), some (.inl (nI j)), some (.inl (nI k))] [] μ1 := by
    intro Q j n
    induction n using Nat.strongRecOn with
    | _ n ih =>
    intro k μ1 hj hn hk hfr hinv hx hy
    refine xj_iload_n E d_X9_findFinalWithChain_12 rfl ?_
    refine xj_iconst (v := 4) E d_X9_findFinalWithChain_13 (by decide) ?_
    refine xj_icmp_ge (tgt := 72) E d_X9_findFinalWithChain_14 (by decide) (fun h14 => ?_) (fun h14 => ?_)
    · have hk8 : k = 4 := by
        have := ge_nI (a := 4) h14 (by omega) (by omega)
        omega
      subst hk8
      refine xj_forget 2 ?_
      exact hx _ hfr (fun q hq => hinv q (by omega))
    have hlt : k < 4 := ng_nI (a := 4) h14 (by omega) (by omega)
    have ed : (4 * j + k) / 4 = j := by omega
    have em : (4 * j + k) % 4 = k := by omega
    refine xj_aload_n E d_X9_findFinalWithChain_17 rfl ?_
    refine xj_geta E fl_X9_32 (by decide) rfl (by decide) rfl d_X9_findFinalWithChain_18 ?_
    refine xj_iload_n E d_X9_findFinalWithChain_21 rfl ?_
    refine xj_aald E (by decide) rfl (show vp_in (nI j) 4 from in_nI (by omega) (by omega)) d_X9_findFinalWithChain_22 ?_
    refine xj_st (st' := [.inr (12, j)]) (by rw [cl_nI (by omega)]; try rfl) ?_
    refine xj_iload_n E d_X9_findFinalWithChain_23 rfl ?_
    refine xj_callV E (k_X4_place l G hI j (nI k) _) cw_X9_129 cv_X4_place (by decide) rfl rfl rfl ⟨by decide, by decide⟩ (Nat.le_of_ble_eq_true rfl) d_X9_findFinalWithChain_24 ⟨by decide, by decide⟩ (fun r24 μ24 ho24 hp24 => ?_)
    obtain ⟨rfl, hm24⟩ := hp24
    refine xj_mem hm24 ?_
    refine xj_st (st' := [.inr (13, 5 * j + 1 + k)]) (by rw [if_neg (nI_pos (by omega)), if_pos (lt4 hlt), cl_nI (by omega)]; try rfl) ?_
    refine xj_iconst (v := 1) E d_X9_findFinalWithChain_27 (by decide) ?_
    refine xj_callV E (k_X8_has l G hI (5 * j + 1 + k) 1 _) cw_X9_171 cv_X8_has (by decide) rfl rfl rfl ⟨by decide, by decide⟩ (Nat.le_of_ble_eq_true rfl) d_X9_findFinalWithChain_28 ⟨by decide, by decide⟩ (fun r28 μ28 ho28 hp28 => ?_)
    obtain ⟨rfl, hm28⟩ := hp28
    refine xj_mem hm28 ?_
    refine xj_if_eq (tgt := 66) E d_X9_findFinalWithChain_31 (by decide) (fun h31 => ?_) (fun h31 => ?_)
    · refine xj_iinc (v := nI (k + 1)) E d_X9_findFinalWithChain_66 rfl (nI_inc k) rfl ?_
      refine xj_goto (tgt := 12) E d_X9_findFinalWithChain_69 (by decide) ?_
      first
        | exact ih (4 - (k + 1)) (by omega) (k + 1) _ hj rfl (by omega) (hfr.tr hfr2) (fun q hq => by
            by_cases z : q = 4 * j + k
            · subst z
              rw [ed, em]
              intro z
              have h53 := (nI_leI (a := (xChn μ j k).length) (b := 1) (by have := xChn_len hw hj (mm := k); omega) (by omega)).mp (by rw [← hch.1]; exact h53)
              omega
            · exact hinv q (by omega)) hx hy
        | exact ih (4 - (k + 1)) (by omega) (k + 1) _ hj rfl (by omega) hfr (fun q hq => by
            by_cases z : q = 4 * j + k
            · subst z
              rw [ed, em]
              intro z
              have hz := b01 h31
              rw [hfr 13 (by omega)] at hz
              exact z.1 hz
            · exact hinv q (by omega)) hx hy
    refine xj_aload_n E d_X9_findFinalWithChain_34 rfl ?_
    refine xj_aload_n E d_X9_findFinalWithChain_35 rfl ?_
    refine xj_geta E fl_X9_32 (by decide) rfl (by decide) rfl d_X9_findFinalWithChain_36 ?_
    refine xj_iload_n E d_X9_findFinalWithChain_39 rfl ?_
    refine xj_aald E (by decide) rfl (show vp_in (nI j) 4 from in_nI (by omega) (by omega)) d_X9_findFinalWithChain_40 ?_
    refine xj_st (st' := [.inr (12, j), .inr (0, 0)]) (by rw [cl_nI (by omega)]; try rfl) ?_
    refine xj_iload_n E d_X9_findFinalWithChain_41 rfl ?_
    refine xj_callV E (k_X9_buildChain l G hI j k _ (hfr.wf hw) ⟨by rw [hfr.ni]; intro i hi; rw [hfr.conf]; exact hnc.1 i hi, by rw [hfr.np]; intro q hq; rw [hfr.conf]; exact hnc.2 q hq⟩ (by rw [hfr.np]; exact hj) (by omega)) cw_X9_158 cv_X9_buildChain (by decide) rfl rfl rfl ⟨by decide, by decide⟩ (Nat.le_of_ble_eq_true rfl) d_X9_findFinalWithChain_42 ⟨by decide, by decide⟩ (fun r42 μ42 ho42 hp42 => ?_)
    obtain ⟨rfl, hfr2, hch⟩ := hp42
    rw [hfr.chn] at hch
    refine xj_aload_n E d_X9_findFinalWithChain_45 rfl ?_
    refine xj_geta E fl_X9_50 (by decide) rfl (by decide) rfl d_X9_findFinalWithChain_46 ?_
    refine xj_geti E fl_X9_162 (by decide) rfl (by decide) rfl d_X9_findFinalWithChain_49 ?_
    refine xj_iconst (v := 1) E d_X9_findFinalWithChain_52 (by decide) ?_
    refine xj_icmp_le (tgt := 66) E d_X9_findFinalWithChain_53 (by decide) (fun h53 => ?_) (fun h53 => ?_)
    · refine xj_iinc (v := nI (k + 1)) E d_X9_findFinalWithChain_66 rfl (nI_inc k) rfl ?_
      refine xj_goto (tgt := 12) E d_X9_findFinalWithChain_69 (by decide) ?_
      first
        | exact ih (4 - (k + 1)) (by omega) (k + 1) _ hj rfl (by omega) (hfr.tr hfr2) (fun q hq => by
            by_cases z : q = 4 * j + k
            · subst z
              rw [ed, em]
              intro z
              have h53 := (nI_leI (a := (xChn μ j k).length) (b := 1) (by have := xChn_len hw hj (mm := k); omega) (by omega)).mp (by rw [← hch.1]; exact h53)
              omega
            · exact hinv q (by omega)) hx hy
        | exact ih (4 - (k + 1)) (by omega) (k + 1) _ hj rfl (by omega) hfr (fun q hq => by
            by_cases z : q = 4 * j + k
            · subst z
              rw [ed, em]
              intro z
              have hz := b01 h31
              rw [hfr 13 (by omega)] at hz
              exact z.1 hz
            · exact hinv q (by omega)) hx hy
    refine xj_sipush (v := 300) E d_X9_findFinalWithChain_56 (by decide) ?_
    refine xj_iconst (v := 4) E d_X9_findFinalWithChain_59 (by decide) ?_
    refine xj_iload_n E d_X9_findFinalWithChain_60 rfl ?_
    refine xj_imul E d_X9_findFinalWithChain_61 ?_
    refine xj_iadd E d_X9_findFinalWithChain_62 ?_
    refine xj_iload_n E d_X9_findFinalWithChain_63 rfl ?_
    refine xj_iadd E d_X9_findFinalWithChain_64 ?_
    refine hy (4 * j + k) _ _ (hfr.tr hfr2) (by omega) ?_ hinv ?_ _ rfl
    · rw [ed, em]
      have hz := b01n h31
      rw [hfr 13 (by omega)] at hz
      refine ⟨hz, ?_⟩
      apply Classical.byContradiction
      intro q
      apply h53
      rw [hch.1]
      exact nI_le (b := 1) (by omega) (by omega)
    · rw [← nI_add, ← nI_add, ← pk_mul, ← Int32.add_assoc]
      rfl
  have lp1 : ∀ (Q : State → Prop) (n j : Nat) (μ1 : Mem), xnp μ - j = n → j ≤ xnp μ → frS μ μ1 → (∀ q, q < 4 * j → ¬ (¬ μ 13 (5 * (q / 4) + 1 + q % 4) 3 &&& 1 = 0 ∧ 1 < (xChn μ (q / 4) (q % 4)).length)) → (∀ μ2, frS μ μ2 → (∀ q, q < 4 * xnp μ → ¬ (¬ μ 13 (5 * (q / 4) + 1 + q % 4) 3 &&& 1 = 0 ∧ 1 < (xChn μ (q / 4) (q % 4)).length)) → XJ G (xA G) 3 p l e (xr 5) s m args below meth c 0 0 Q 78 [some (.inr (0, 0)), some (.inl (nI (xnp μ))), none] [] μ2) → (∀ q μ2 x, frS μ μ2 → q < 4 * xnp μ → (¬ μ 13 (5 * (q / 4) + 1 + q % 4) 3 &&& 1 = 0 ∧ 1 < (xChn μ (q / 4) (q % 4)).length) → (∀ k, k < q → ¬ (¬ μ 13 (5 * (k / 4) + 1 + k % 4) 3 &&& 1 = 0 ∧ 1 < (xChn μ (k / 4) (k % 4)).length)) → x = nI (300 + q) → ∀ L, L.length = 3 → XJ G (xA G) 3 p l e (xr 5) s m args below meth c 0 0 Q 65 L [.inl x] μ2) → XJ G (xA G) 3 p l e (xr 5) s m args below meth c 0 0 Q 2 [some (.inr (0, 0)), some (.inl (nI j)), none] [] μ1 := by
    intro Q n
    induction n using Nat.strongRecOn with
    | _ n ih =>
    intro j μ1 hn hj hfr hinv hx hy
    have e2 : μ1 0 0 6 = nI (xnp μ) := by rw [hfr 0 (by omega)]; exact hnp.1
    refine xj_iload_n E d_X9_findFinalWithChain_2 rfl ?_
    refine xj_aload_n E d_X9_findFinalWithChain_3 rfl ?_
    refine xj_geti E fl_X9_71 (by decide) rfl (by decide) rfl d_X9_findFinalWithChain_4 ?_
    refine xj_icmp_ge (tgt := 78) E d_X9_findFinalWithChain_7 (by decide) (fun h7 => ?_) (fun h7 => ?_)
    · have hk8 : j = xnp μ := by
        have := ge_nI (b := j) (by rw [← e2]; exact h7) (by omega) (by omega)
        omega
      subst hk8
      exact hx _ hfr hinv
    have hlt : j < xnp μ := ng_nI (b := j) (by rw [← e2]; exact h7) (by omega) (by omega)
    refine xj_iconst (v := 0) E d_X9_findFinalWithChain_10 (by decide) ?_
    refine xj_istore_n E d_X9_findFinalWithChain_11 (by decide) rfl ?_
    refine lp2 Q j 4 0 _ hlt rfl (by omega) hfr (fun q hq => hinv q (by omega)) (fun μ2 hfr3 hno => ?_) hy
    refine xj_iinc (v := nI (j + 1)) E d_X9_findFinalWithChain_72 rfl (nI_inc j) rfl ?_
    refine xj_goto (tgt := 2) E d_X9_findFinalWithChain_75 (by decide) ?_
    exact ih (xnp μ - (j + 1)) (by omega) (j + 1) _ rfl (by omega) hfr3 hno hx hy
  refine xj_iconst (v := 0) E d_X9_findFinalWithChain_0 (by decide) ?_
  refine xj_istore_n E d_X9_findFinalWithChain_1 (by decide) rfl ?_
  refine lp1 _ (xnp μ) 0 μ (by omega) (by omega) (frS.rf μ) (fun q hq => by omega) (fun μ2 hfr2 hno => ?_) (fun q μ2 x hfr2 hq hyes hno hxe L0 hL0 => ?_)
  · refine xj_iconst (v := 0) E d_X9_findFinalWithChain_78 (by decide) ?_
    exact xj_iret E hr hlk d_X9_findFinalWithChain_79 ⟨0, rfl, Or.inr ⟨hno, rfl⟩, hfr2⟩
  · exact xj_iret E hr hlk d_X9_findFinalWithChain_65 ⟨_, rfl, Or.inl ⟨q, hq, hyes, hno, hxe⟩, hfr2⟩
