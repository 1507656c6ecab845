theorem frS.ls {μ μ' : Mem} (h : frS μ μ') (q : Nat) (kind : Int32) : ∀ n, xLs μ' q kind n = xLs μ q kind n
  | 0 => rfl
  | n + 1 => by unfold xLs; rw [h.ls q kind n, h 8 (by omega), h 14 (by omega)]
theorem frS.ei {μ μ' : Mem} (h : frS μ μ') : eI μ' = eI μ := by funext i; simp only [eI]; rw [h 8 (by omega)]
theorem frS.ed {μ μ' : Mem} (h : frS μ μ') : eD μ' = eD μ := by funext i; simp only [eD]; rw [h 10 (by omega)]
theorem frS.bx {μ μ' : Mem} (h : frS μ μ') (FP : Nat → Int32 → Prop) (kind : Int32) : bdX μ' FP kind = bdX μ FP kind := by
  funext p i
  simp only [bdX]
  rw [h 8 (by omega), h.nb, h.pair]
theorem frS.bd {μ μ' : Mem} (h : frS μ μ') (ot y : Int32) : bdD μ' ot y = bdD μ ot y := by
  funext p i
  simp only [bdD]
  rw [h 10 (by omega)]
theorem frS.nt {μ μ' : Mem} (h : frS μ μ') : xnt μ' = xnt μ := by unfold xnt; rw [h 1 (by omega)]
theorem frS.ni {μ μ' : Mem} (h : frS μ μ') : xni μ' = xni μ := by unfold xni; rw [h 0 (by omega)]
theorem frS.nd {μ μ' : Mem} (h : frS μ μ') : xnd μ' = xnd μ := by unfold xnd; rw [h 0 (by omega)]
theorem frS.np {μ μ' : Mem} (h : frS μ μ') : xnp μ' = xnp μ := by unfold xnp; rw [h 0 (by omega)]
theorem frS.nl {μ μ' : Mem} (h : frS μ μ') (q : Nat) : xnl μ' q = xnl μ q := by unfold xnl; rw [h 13 (by omega)]
/-- what is in force for a method or an event -/
def xFP (μ : Mem) (j mm t : Nat) (v : Int32) : Prop := if mm < 4 then xPair μ (5 * j + 1 + mm + 9) t v ∨ (xPair μ (5 * j + 9) t v ∧ ¬ ∃ v', xPair μ (5 * j + 1 + mm + 9) t v') else xPair μ (5 * j + 9) t v
theorem xFP_m {μ : Mem} {j mm : Nat} (h : mm < 4) : xFP μ j mm = fun t v => xPair μ (5 * j + 1 + mm + 9) t v ∨ (xPair μ (5 * j + 9) t v ∧ ¬ ∃ v', xPair μ (5 * j + 1 + mm + 9) t v') := by
  funext t v; unfold xFP; rw [if_pos h]
theorem xFP_e {μ : Mem} {j mm : Nat} (h : ¬ mm < 4) : xFP μ j mm = fun t v => xPair μ (5 * j + 9) t v := by
  funext t v; unfold xFP; rw [if_neg h]
/-- the chain of a method or an event -/
noncomputable def xChn (μ : Mem) (j mm : Nat) : List (Int32 × Int32) :=
  if mm < 4 then (if μ 13 (5 * j + 1 + mm) 3 &&& 2 = 0 then (xLs μ (5 * j) 1 (xnl μ (5 * j))).map (eI μ) else []) ++ (xLs μ (5 * j + 1 + mm) 1 (xnl μ (5 * j + 1 + mm))).map (eI μ) ++ (sel (bdX μ (xFP μ j mm) 1) (xni μ) 9 0).map (eI μ) ++ (sel (bdD μ (μ 12 j 0) (nI mm)) (xnd μ) 9 0).map (eD μ) ++ [(32, 0)]
  else (xLs μ (5 * j) ((2 : Int32) <<< ((nI mm - 4) &&& 31)) (xnl μ (5 * j))).map (eI μ) ++ (sel (bdX μ (xFP μ j mm) ((2 : Int32) <<< ((nI mm - 4) &&& 31))) (xni μ) 9 0).map (eI μ) ++ [(32, 0)]
/-- no row has a conflict -/
def xNC (μ : Mem) : Prop := (∀ i, i < xni μ → ¬ xConf μ (i + 1)) ∧ ∀ q, q < 5 * xnp μ → ¬ xConf μ (q + 9)
theorem xCh_nil (μ : Mem) : xCh (mset μ 19 0 0 0) [] := ⟨mset_at _ _ _ _ _, fun k q h => by simp at h⟩
theorem frS_19 (μ : Mem) (i j : Nat) (x : Int32) : frS μ (mset μ 19 i j x) := fun f hf => mset_f (by omega)

set_option maxRecDepth 100000 in
set_option maxHeartbeats 4000000 in
/-- X9 buildChain -/
theorem k_X9_buildChain (l : Launch) (G : XG) (hI : XI G) (j mm : Nat) (μ : Mem) (hw : xWF μ) (hnc : xNC μ) (hj : j < xnp μ) (hm7 : mm < 7) : XMet l G y_X9_buildChain c_X9_buildChain 4 none 4 [.inr (0, 0), .inr (12, j), .inl (nI mm)] μ (fun r μ' => r = none ∧ frS μ μ' ∧ xCh μ' (xChn μ j mm)) := by
  refine xj_met (by decide) hI (Nat.le_of_ble_eq_true rfl) ?_
  intro p e s m args below meth c E hr hlk
  have E : XE G (xA G) RX9 c_X9_buildChain 4 p s m args c := E
  refine xj_loc (L' := [some (.inr (0, 0)), some (.inr (12, j)), some (.inl (nI mm)), none]) rfl ?_
  have fa := frS_19 μ 0 0 0
  have hnp := hw.2.2.2.1
  have hni := hw.2.1
  have hnd := hw.2.2.1
  have hq0 := hw.2.2.2.2.2 (5 * j) (by omega)
  have hR0 := hq0.1
  have hq02 := hq0.2.1.2
  refine xj_aload_n E d_X9_buildChain_0 rfl ?_
  refine xj_geta E fl_X9_50 (by decide) rfl (by decide) rfl d_X9_buildChain_1 ?_
  refine xj_iconst (v := 0) E d_X9_buildChain_4 (by decide) ?_
  refine xj_put E fp_X9_162 (by decide) rfl (by decide) rfl (narrow_i _) d_X9_buildChain_5 ?_
  refine xj_iload_n E d_X9_buildChain_8 rfl ?_
  refine xj_iconst (v := 4) E d_X9_buildChain_9 (by decide) ?_
  refine xj_icmp_lt (tgt := 54) E d_X9_buildChain_10 (by decide) (fun h10 => ?_) (fun h10 => ?_)
  · have hmm : mm < 4 := (nI_ltI (a := mm) (b := 4) (by omega) (by omega)).mp h10
    have hq1 := hw.2.2.2.2.2 (5 * j + 1 + mm) (by omega)
    have hq12 := hq1.2.1.2
    have hl1 := xLs_len μ (5 * j) 1 (xnl μ (5 * j))
    have hl2 := xLs_len μ (5 * j + 1 + mm) 1 (xnl μ (5 * j + 1 + mm))
    have hl3 := sel_len (n := xni μ) (i := 0) (bdX_u μ (xFP μ j mm) 1) (Nat.le_refl 9) (by omega) (Or.inr rfl)
    have hl4 := sel_len (n := xnd μ) (i := 0) (bdD_u μ (μ 12 j 0) (nI mm)) (Nat.le_refl 9) (by omega) (Or.inr rfl)
    have hA1 : (if μ 13 (5 * j + 1 + mm) 3 &&& 2 = 0 then (xLs μ (5 * j) 1 (xnl μ (5 * j))).map (eI μ) else []).length ≤ 4 := by
      split
      · rw [List.length_map]; omega
      · simp
    have hrest : ∀ μ3, frS μ μ3 → (∀ t, t < 8 → ∀ v, (¬ (dS μ3 0).1 t = 0 ∧ (dS μ3 0).2.1 t = v) ↔ (xPair μ (5 * j + 1 + mm + 9) t v ∨ (xPair μ (5 * j + 9) t v ∧ ¬ ∃ v', xPair μ (5 * j + 1 + mm + 9) t v'))) → xCh μ3 (if μ 13 (5 * j + 1 + mm) 3 &&& 2 = 0 then (xLs μ (5 * j) 1 (xnl μ (5 * j))).map (eI μ) else []) → XJ G (xA G) 4 p l e (xr 4) s m args below meth c 0 0 (MQ below (xQ G (fun r μ' => r = none ∧ frS μ μ' ∧ xCh μ' (xChn μ j mm))) args s 0 0 (xA G)) 83 [some (.inr (0, 0)), some (.inr (12, j)), some (.inl (nI mm)), some (.inr (13, 5 * j + 1 + mm))] [] μ3 := by
      intro μ3 fc hF3 hch3
      refine xj_aload_n E d_X9_buildChain_83 rfl ?_
      refine xj_aload_n E d_X9_buildChain_84 rfl ?_
      refine xj_iconst (v := 1) E d_X9_buildChain_85 (by decide) ?_
      refine xj_callV E (k_X9_appendListed l G hI (5 * j + 1 + mm) 1 _ _ (fc.wf hw) (by rw [fc.np]; omega) hch3 hA1) cw_X9_210 cv_X9_appendListed (by decide) rfl rfl rfl ⟨by decide, by decide⟩ (Nat.le_of_ble_eq_true rfl) d_X9_buildChain_86 ⟨by decide, by decide⟩ (fun r86 μ86 ho86 hp86 => ?_)
      obtain ⟨rfl, hfr4, hch4⟩ := hp86
      have fd := fc.tr hfr4.1
      rw [fc.nl, fc.ls, fc.ei] at hch4
      refine xj_aload_n E d_X9_buildChain_89 rfl ?_
      refine xj_iconst (v := 1) E d_X9_buildChain_90 (by decide) ?_
      refine xj_callV E (k_X9_appendBound l G hI 1 (xFP μ j mm) _ _ (fd.wf hw) (by rw [fd.ni]; intro i hi; rw [fd.conf]; exact hnc.1 i hi) (by rw [hfr4.2, xFP_m hmm]; exact hF3) hch4 (by rw [List.length_append, List.length_map]; omega)) cw_X9_214 cv_X9_appendBound (by decide) rfl rfl rfl ⟨by decide, by decide⟩ (Nat.le_of_ble_eq_true rfl) d_X9_buildChain_91 ⟨by decide, by decide⟩ (fun r91 μ91 ho91 hp91 => ?_)
      obtain ⟨rfl, hfr5, hch5⟩ := hp91
      have fe := fd.tr hfr5.1
      rw [fd.ni, fd.bx, fd.ei] at hch5
      refine xj_aload_n E d_X9_buildChain_94 rfl ?_
      refine xj_aload_n E d_X9_buildChain_95 rfl ?_
      refine xj_geti E fl_X9_221 (by decide) rfl (by decide) rfl d_X9_buildChain_96 ?_
      refine xj_iload_n E d_X9_buildChain_99 rfl ?_
      refine xj_callV E (k_X9_appendDecorators l G hI _ (nI mm) _ _ (fe.wf hw) hch5 (by simp only [List.length_append, List.length_map]; omega)) cw_X9_223 cv_X9_appendDecorators (by decide) rfl rfl rfl ⟨by decide, by decide⟩ (Nat.le_of_ble_eq_true rfl) d_X9_buildChain_100 ⟨by decide, by decide⟩ (fun r100 μ100 ho100 hp100 => ?_)
      obtain ⟨rfl, hfr6, hch6⟩ := hp100
      have ff := fe.tr hfr6.1
      rw [fe.nd, fe.bd, fe.ed, fe 12 (by omega)] at hch6
      refine xj_aload_n E d_X9_buildChain_103 rfl ?_
      refine xj_geta E fl_X9_50 (by decide) rfl (by decide) rfl d_X9_buildChain_104 ?_
      refine xj_bipush (v := 32) E d_X9_buildChain_107 (by decide) ?_
      refine xj_iconst (v := 0) E d_X9_buildChain_109 (by decide) ?_
      refine xj_callV E (k_X2_add l G hI 32 0 _ _ hch6 (by simp only [List.length_append, List.length_map]; omega)) cw_X9_226 cv_X2_add (by decide) rfl rfl rfl ⟨by decide, by decide⟩ (Nat.le_of_ble_eq_true rfl) d_X9_buildChain_110 ⟨by decide, by decide⟩ (fun r110 μ110 ho110 hp110 => ?_)
      obtain ⟨rfl, hch7, hfr7⟩ := hp110
      exact xj_vret E hr hlk d_X9_buildChain_113 ⟨rfl, ff.tr (frB_ch hfr7).1, by unfold xChn; rw [if_pos hmm]; exact hch7⟩
    refine xj_aload_n E d_X9_buildChain_54 rfl ?_
    refine xj_iload_n E d_X9_buildChain_55 rfl ?_
    refine xj_callV E (k_X4_place l G hI j (nI mm) _) cw_X9_129 cv_X4_place (by decide) rfl rfl rfl ⟨by decide, by decide⟩ (Nat.le_of_ble_eq_true rfl) d_X9_buildChain_56 ⟨by decide, by decide⟩ (fun r56 μ56 ho56 hp56 => ?_)
    obtain ⟨rfl, hm56⟩ := hp56
    refine xj_mem hm56 ?_
    refine xj_st (st' := [.inr (13, 5 * j + 1 + mm)]) (by rw [if_neg (nI_pos (by omega)), if_pos h10, cl_nI (by omega)]; try rfl) ?_
    refine xj_astore_n E d_X9_buildChain_59 (by decide) rfl ?_
    refine xj_aload_n E d_X9_buildChain_60 rfl ?_
    refine xj_aload_n E d_X9_buildChain_61 rfl ?_
    refine xj_aload_n E d_X9_buildChain_62 rfl ?_
    refine xj_callV E (k_X9_findInForceForMethod l G hI j (5 * j + 1 + mm) (xnt μ) _ (by rw [fa.typ]; exact hw.1) (by rw [fa.row]; exact (hw.2.2.2.2.2 _ (by omega)).1) (by rw [fa.row]; exact hR0) (by rw [fa.conf]; exact hnc.2 _ (by omega)) (by rw [fa.conf]; exact hnc.2 _ (by omega))) cw_X9_217 cv_X9_findInForceForMethod (by decide) rfl rfl rfl ⟨by decide, by decide⟩ (Nat.le_of_ble_eq_true rfl) d_X9_buildChain_63 ⟨by decide, by decide⟩ (fun r63 μ63 ho63 hp63 => ?_)
    obtain ⟨rfl, hfr1, hk1, hF1⟩ := hp63
    have fb := fa.tr hfr1
    simp only [fa.pair] at hF1
    have hch1 : xCh μ63 [] := xCh_keep (xCh_nil μ) (hk1 19 (by decide)) (hk1 20 (by decide)) (hk1 21 (by decide))
    refine xj_aload_n E d_X9_buildChain_66 rfl ?_
    refine xj_iconst (v := 2) E d_X9_buildChain_67 (by decide) ?_
    refine xj_callV E (k_X8_has l G hI (5 * j + 1 + mm) 2 _) cw_X9_171 cv_X8_has (by decide) rfl rfl rfl ⟨by decide, by decide⟩ (Nat.le_of_ble_eq_true rfl) d_X9_buildChain_68 ⟨by decide, by decide⟩ (fun r68 μ68 ho68 hp68 => ?_)
    obtain ⟨rfl, hm68⟩ := hp68
    refine xj_mem hm68 ?_
    refine xj_if_ne (tgt := 83) E d_X9_buildChain_71 (by decide) (fun h71 => ?_) (fun h71 => ?_)
    · refine hrest _ ?_ ?_ ?_
      · first | exact fc | exact fb
      · first
          | (rw [hfr3.2]; exact hF1)
          | exact hF1
      · first
          | (have hz := b01 h71
             rw [fb 13 (by omega)] at hz
             rw [if_pos hz]
             exact hch3)
          | (have hz := b01n h71
             rw [fb 13 (by omega)] at hz
             rw [if_neg hz]
             exact hch1)
    refine xj_aload_n E d_X9_buildChain_74 rfl ?_
    refine xj_aload_n E d_X9_buildChain_75 rfl ?_
    refine xj_geta E fl_X9_199 (by decide) rfl (by decide) rfl d_X9_buildChain_76 ?_
    refine xj_iconst (v := 1) E d_X9_buildChain_79 (by decide) ?_
    refine xj_callV E (k_X9_appendListed l G hI (5 * j) 1 [] _ (fb.wf hw) (by rw [fb.np]; omega) hch1 (by simp)) cw_X9_210 cv_X9_appendListed (by decide) rfl rfl rfl ⟨by decide, by decide⟩ (Nat.le_of_ble_eq_true rfl) d_X9_buildChain_80 ⟨by decide, by decide⟩ (fun r80 μ80 ho80 hp80 => ?_)
    obtain ⟨rfl, hfr3, hch3⟩ := hp80
    have fc := fb.tr hfr3.1
    rw [fb.nl, fb.ls, fb.ei, List.nil_append] at hch3
    refine hrest _ ?_ ?_ ?_
    · first | exact fc | exact fb
    · first
        | (rw [hfr3.2]; exact hF1)
        | exact hF1
    · first
        | (have hz := b01 h71
           rw [fb 13 (by omega)] at hz
           rw [if_pos hz]
           exact hch3)
        | (have hz := b01n h71
           rw [fb 13 (by omega)] at hz
           rw [if_neg hz]
           exact hch1)
  have hmm : ¬ mm < 4 := fun q => h10 (nI_lt (b := 4) q (by omega))
  refine xj_iconst (v := 2) E d_X9_buildChain_13 (by decide) ?_
  refine xj_iload_n E d_X9_buildChain_14 rfl ?_
  refine xj_iconst (v := 4) E d_X9_buildChain_15 (by decide) ?_
  refine xj_isub E d_X9_buildChain_16 ?_
  refine xj_ishl E d_X9_buildChain_17 ?_
  refine xj_istore_n E d_X9_buildChain_18 (by decide) rfl ?_
  refine xj_aload_n E d_X9_buildChain_19 rfl ?_
  refine xj_geta E fl_X9_10 (by decide) rfl (by decide) rfl d_X9_buildChain_20 ?_
  refine xj_aload_n E d_X9_buildChain_23 rfl ?_
  refine xj_geta E fl_X9_199 (by decide) rfl (by decide) rfl d_X9_buildChain_24 ?_
  refine xj_geta E fl_X9_133 (by decide) rfl (by decide) rfl d_X9_buildChain_27 ?_
  refine xj_aload_n E d_X9_buildChain_30 rfl ?_
  refine xj_geta E fl_X9_40 (by decide) rfl (by decide) rfl d_X9_buildChain_31 ?_
  refine xj_callV E (k_X0_close l G hI (5 * j + 9) 0 (xnt μ) _ (by rw [fa.typ]; exact hw.1) (by rw [fa.row]; exact hR0)) cw_X9_203 cv_X0_close (by decide) rfl rfl rfl ⟨by decide, by decide⟩ (Nat.le_of_ble_eq_true rfl) d_X9_buildChain_34 ⟨by decide, by decide⟩ (fun r34 μ34 ho34 hp34 => ?_)
  obtain ⟨rfl, S, hm34, hS⟩ := hp34
  refine xj_mem hm34 ?_
  rw [fa.clok] at hS
  have fb := fa.tr (frS_mcl (mset μ 19 0 0 0) 0 S)
  refine xj_aload_n E d_X9_buildChain_37 rfl ?_
  refine xj_aload_n E d_X9_buildChain_38 rfl ?_
  refine xj_geta E fl_X9_199 (by decide) rfl (by decide) rfl d_X9_buildChain_39 ?_
  refine xj_iload_n E d_X9_buildChain_42 rfl ?_
  refine xj_callV E (k_X9_appendListed l G hI (5 * j) _ [] _ (fb.wf hw) (by rw [fb.np]; omega) (xCh_mcl (xCh_nil μ)) (by simp)) cw_X9_210 cv_X9_appendListed (by decide) rfl rfl rfl ⟨by decide, by decide⟩ (Nat.le_of_ble_eq_true rfl) d_X9_buildChain_43 ⟨by decide, by decide⟩ (fun r43 μ43 ho43 hp43 => ?_)
  obtain ⟨rfl, hfr3, hch3⟩ := hp43
  have fc := fb.tr hfr3.1
  rw [fb.nl, fb.ls, fb.ei, List.nil_append] at hch3
  refine xj_aload_n E d_X9_buildChain_46 rfl ?_
  refine xj_iload_n E d_X9_buildChain_47 rfl ?_
  refine xj_callV E (k_X9_appendBound l G hI _ (xFP μ j mm) _ _ (fc.wf hw) (by rw [fc.ni]; intro i hi; rw [fc.conf]; exact hnc.1 i hi) (by rw [hfr3.2, dS_mcl, xFP_e hmm]; exact xForce1 hS (hnc.2 _ (by omega))) hch3 (by have := xLs_len μ (5 * j) ((2 : Int32) <<< ((nI mm - 4) &&& 31)) (xnl μ (5 * j)); simp; omega)) cw_X9_214 cv_X9_appendBound (by decide) rfl rfl rfl ⟨by decide, by decide⟩ (Nat.le_of_ble_eq_true rfl) d_X9_buildChain_48 ⟨by decide, by decide⟩ (fun r48 μ48 ho48 hp48 => ?_)
  obtain ⟨rfl, hfr4, hch4⟩ := hp48
  have fd := fc.tr hfr4.1
  rw [fc.ni, fc.bx, fc.ei] at hch4
  refine xj_goto (tgt := 103) E d_X9_buildChain_51 (by decide) ?_
  refine xj_aload_n E d_X9_buildChain_103 rfl ?_
  refine xj_geta E fl_X9_50 (by decide) rfl (by decide) rfl d_X9_buildChain_104 ?_
  refine xj_bipush (v := 32) E d_X9_buildChain_107 (by decide) ?_
  refine xj_iconst (v := 0) E d_X9_buildChain_109 (by decide) ?_
  refine xj_callV E (k_X2_add l G hI 32 0 _ _ hch4 (by have h1 := xLs_len μ (5 * j) ((2 : Int32) <<< ((nI mm - 4) &&& 31)) (xnl μ (5 * j)); have h2 := sel_len (n := xni μ) (i := 0) (bdX_u μ (xFP μ j mm) ((2 : Int32) <<< ((nI mm - 4) &&& 31))) (Nat.le_refl 9) (by omega) (Or.inr rfl); simp; omega)) cw_X9_226 cv_X2_add (by decide) rfl rfl rfl ⟨by decide, by decide⟩ (Nat.le_of_ble_eq_true rfl) d_X9_buildChain_110 ⟨by decide, by decide⟩ (fun r110 μ110 ho110 hp110 => ?_)
  obtain ⟨rfl, hch5, hfr5⟩ := hp110
  exact xj_vret E hr hlk d_X9_buildChain_113 ⟨rfl, fd.tr (frB_ch hfr5).1, by unfold xChn; rw [if_neg hmm]; exact hch5⟩
