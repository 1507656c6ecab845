theorem sw5 {x : Int32} (h1 : ¬ x = 1) (h2 : ¬ x = 2) (h3 : ¬ x = 3) (h4 : ¬ x = 4) (h5 : ¬ x = 5) : x.toInt < 1 ∨ 5 < x.toInt := by
  have a1 := lv_neT (a := 1) h1 (by decide)
  have a2 := lv_neT (a := 2) h2 (by decide)
  have a3 := lv_neT (a := 3) h3 (by decide)
  have a4 := lv_neT (a := 4) h4 (by decide)
  have a5 := lv_neT (a := 5) h5 (by decide)
  omega

set_option maxRecDepth 100000 in
set_option maxHeartbeats 4000000 in
/-- X7 behave -/
theorem k_X7_behave (l : Launch) (G : XG) (hI : XI G) (n r k : Nat) (g : Int32) (S : RS) (μ : Mem) (hn : n ≤ 21) (hkr : k + 1 + r = n) (hE : EnterOK l G μ n r) (hS : S.1 ≤ 64) : XMet l G y_X7_behave c_X7_behave 6 (some .int) (4 * r + 5) [.inr (22, 0), .inr (19, 0), .inl (nI k), .inl g] (mrs μ S) (fun rr μ' => rr = some (.inl (rBv (rn (μ 20 0) (μ 21 0) (μ 22 0 4) (μ 22 0 5) r (k + 1)) (μ 20 0 k) (μ 21 0 k) (μ 22 0 4) g S).1) ∧ μ' = mrs μ (rBv (rn (μ 20 0) (μ 21 0) (μ 22 0 4) (μ 22 0 5) r (k + 1)) (μ 20 0 k) (μ 21 0 k) (μ 22 0 4) g S).2) := by
  refine xj_met (by decide) hI (Nat.le_of_ble_eq_true rfl) ?_
  intro p e s m args below meth c E hr hlk
  have E : XE G (xA G) RX7 c_X7_behave 6 p s m args c := E
  refine xj_loc (L' := [some (.inr (22, 0)), some (.inr (19, 0)), some (.inl (nI k)), some (.inl g), none, none]) rfl ?_
  have hcl : (nI k).toNatClampNeg = k := cl_nI (by omega)
  have hin : vp_in (nI k) 21 := in_nI (by omega) (by omega)
  have hsw : ∀ z : Int32, (z = 1 ∧ μ 20 0 k < 16 ∨ z = 0 ∧ ¬ μ 20 0 k < 16) → XJ G (xA G) 6 p l e (xr (4 * r + 5)) s m args below meth c 0 0 (MQ below (xQ G (fun rr μ' => rr = some (.inl (rBv (rn (μ 20 0) (μ 21 0) (μ 22 0 4) (μ 22 0 5) r (k + 1)) (μ 20 0 k) (μ 21 0 k) (μ 22 0 4) g S).1) ∧ μ' = mrs μ (rBv (rn (μ 20 0) (μ 21 0) (μ 22 0 4) (μ 22 0 5) r (k + 1)) (μ 20 0 k) (μ 21 0 k) (μ 22 0 4) g S).2)) args s 0 0 (xA G)) 22 [some (.inr (22, 0)), some (.inr (19, 0)), some (.inl (nI k)), some (.inl g), some (.inl (μ 20 0 k)), some (.inl z)] [] (mrs μ S) := by
    intro z hz
    have hz0 : z = 0 → ¬ μ 20 0 k < 16 := fun q => by
      rcases hz with h | h
      · exact absurd (h.1.symm.trans q) i1_0
      · exact h.2
    have hz1 : ¬ z = 0 → μ 20 0 k < 16 := fun q => by
      rcases hz with h | h
      · exact h.2
      · exact absurd h.1 q
    refine xj_aload_n E d_X7_behave_22 rfl ?_
    refine xj_geta E fl_X7_60 (by decide) rfl (by decide) rfl d_X7_behave_23 ?_
    refine xj_iload_n E d_X7_behave_26 rfl ?_
    refine xj_iald E (by decide) hin d_X7_behave_27 ?_
    refine xj_st (st' := [.inl (μ 21 0 k)]) (by rw [hcl]; rfl) ?_
    by_cases hb1 : μ 21 0 k = 1
    · refine xj_st (st' := [.inl 1]) (by rw [hb1]) ?_
      refine xj_tableIn (tgt := 64) (off := 36) E d_X7_behave_28 (by decide) (by decide) (by decide) (by decide) ?_
      refine xj_aload_n E d_X7_behave_64 rfl ?_
      refine xj_aload_n E d_X7_behave_65 rfl ?_
      refine xj_iload_n E d_X7_behave_66 rfl ?_
      refine xj_iload_n E d_X7_behave_67 rfl ?_
      refine xj_callV E (k_X7_proceedTwice l G hI n r k g S μ hn hkr hE hS) cw_X7_63 cv_X7_proceedTwice (by decide) rfl rfl rfl ⟨by show 4 * r + 4 + 1 ≤ 4 * r + 5; omega, by show 40 * (4 * r + 4) + 40 ≤ 40 * (4 * r + 5); omega⟩ (Nat.le_of_ble_eq_true rfl) d_X7_behave_68 ⟨Nat.zero_le _, Nat.zero_le _⟩ (fun r68 μ68 ho68 hp68 => ?_)
      obtain ⟨rfl, hm68⟩ := hp68
      refine xj_mem hm68 ?_
      exact xj_iret E hr hlk d_X7_behave_71 (by unfold rBv; rw [if_pos hb1]; exact ⟨rfl, rfl⟩)
    by_cases hb2 : μ 21 0 k = 2
    · refine xj_st (st' := [.inl 2]) (by rw [hb2]) ?_
      refine xj_tableIn (tgt := 72) (off := 44) E d_X7_behave_28 (by decide) (by decide) (by decide) (by decide) ?_
      refine xj_iload E d_X7_behave_72 rfl ?_
      refine xj_if_eq (tgt := 84) E d_X7_behave_74 (by decide) (fun h74 => ?_) (fun h74 => ?_)
      · refine xj_iload_n E d_X7_behave_84 rfl ?_
        exact xj_iret E hr hlk d_X7_behave_85 (by first | (unfold rBv; rw [if_neg hb1, if_pos hb2]; rw [if_neg (hz0 h74)]; exact ⟨rfl, rfl⟩) | (unfold rBv; rw [if_neg hb1, if_pos hb2]; rw [if_pos (hz1 h74)]; exact ⟨rfl, rfl⟩))
      refine xj_aload_n E d_X7_behave_77 rfl ?_
      refine xj_geti E fl_X7_35 (by decide) rfl (by decide) rfl d_X7_behave_78 ?_
      refine xj_goto (tgt := 85) E d_X7_behave_81 (by decide) ?_
      exact xj_iret E hr hlk d_X7_behave_85 (by first | (unfold rBv; rw [if_neg hb1, if_pos hb2]; rw [if_neg (hz0 h74)]; exact ⟨rfl, rfl⟩) | (unfold rBv; rw [if_neg hb1, if_pos hb2]; rw [if_pos (hz1 h74)]; exact ⟨rfl, rfl⟩))
    by_cases hb3 : μ 21 0 k = 3
    · refine xj_st (st' := [.inl 3]) (by rw [hb3]) ?_
      refine xj_tableIn (tgt := 86) (off := 58) E d_X7_behave_28 (by decide) (by decide) (by decide) (by decide) ?_
      refine xj_iload E d_X7_behave_86 rfl ?_
      refine xj_if_eq (tgt := 100) E d_X7_behave_88 (by decide) (fun h88 => ?_) (fun h88 => ?_)
      · refine xj_iconst (v := 2) E d_X7_behave_100 (by decide) ?_
        refine xj_aload_n E d_X7_behave_101 rfl ?_
        refine xj_aload_n E d_X7_behave_102 rfl ?_
        refine xj_iload_n E d_X7_behave_103 rfl ?_
        refine xj_iload_n E d_X7_behave_104 rfl ?_
        refine xj_iconst (v := 1) E d_X7_behave_105 (by decide) ?_
        refine xj_iadd E d_X7_behave_106 ?_
        refine xj_callV E (k_X7_proceed l G hI n r k (g + 1) S μ hn hkr hE hS) cw_X7_70 cv_X7_proceed (by decide) rfl rfl rfl ⟨by show 4 * r + 3 + 1 ≤ 4 * r + 5; omega, by show 40 * (4 * r + 3) + 40 ≤ 40 * (4 * r + 5); omega⟩ (Nat.le_of_ble_eq_true rfl) d_X7_behave_107 ⟨Nat.zero_le _, Nat.zero_le _⟩ (fun r107 μ107 ho107 hp107 => ?_)
        obtain ⟨rfl, hm107⟩ := hp107
        refine xj_mem hm107 ?_
        refine xj_imul E d_X7_behave_110 ?_
        exact xj_iret E hr hlk d_X7_behave_111 (by first | (unfold rBv; rw [if_neg hb1, if_neg hb2, if_pos hb3]; rw [if_neg (hz0 h88)]; exact ⟨rfl, rfl⟩) | (unfold rBv; rw [if_neg hb1, if_neg hb2, if_pos hb3]; rw [if_pos (hz1 h88)]; exact ⟨rfl, rfl⟩))
      refine xj_aload_n E d_X7_behave_91 rfl ?_
      refine xj_aload_n E d_X7_behave_92 rfl ?_
      refine xj_iload_n E d_X7_behave_93 rfl ?_
      refine xj_callV E (k_X7_growShared l G hI n r k S μ hn hkr hE hS) cw_X7_66 cv_X7_growShared (by decide) rfl rfl rfl ⟨by show 4 * r + 4 + 1 ≤ 4 * r + 5; omega, by show 40 * (4 * r + 4) + 40 ≤ 40 * (4 * r + 5); omega⟩ (Nat.le_of_ble_eq_true rfl) d_X7_behave_94 ⟨Nat.zero_le _, Nat.zero_le _⟩ (fun r94 μ94 ho94 hp94 => ?_)
      obtain ⟨rfl, hm94⟩ := hp94
      refine xj_mem hm94 ?_
      refine xj_goto (tgt := 111) E d_X7_behave_97 (by decide) ?_
      exact xj_iret E hr hlk d_X7_behave_111 (by first | (unfold rBv; rw [if_neg hb1, if_neg hb2, if_pos hb3]; rw [if_neg (hz0 h88)]; exact ⟨rfl, rfl⟩) | (unfold rBv; rw [if_neg hb1, if_neg hb2, if_pos hb3]; rw [if_pos (hz1 h88)]; exact ⟨rfl, rfl⟩))
    by_cases hb4 : μ 21 0 k = 4
    · refine xj_st (st' := [.inl 4]) (by rw [hb4]) ?_
      refine xj_tableIn (tgt := 112) (off := 84) E d_X7_behave_28 (by decide) (by decide) (by decide) (by decide) ?_
      refine xj_aload_n E d_X7_behave_112 rfl ?_
      refine xj_iconst (v := 1) E d_X7_behave_113 (by decide) ?_
      refine xj_iload E d_X7_behave_114 rfl ?_
      refine xj_iadd E d_X7_behave_116 ?_
      refine xj_callV E (k_X7_fail l G hI _ _) cw_X7_47 cv_X7_fail (by decide) rfl rfl rfl ⟨by show 0 + 1 ≤ 4 * r + 5; omega, by show 40 * (0) + 40 ≤ 40 * (4 * r + 5); omega⟩ (Nat.le_of_ble_eq_true rfl) d_X7_behave_117 ⟨Nat.zero_le _, Nat.zero_le _⟩ (fun r117 μ117 ho117 hp117 => ?_)
      obtain ⟨rfl, hm117⟩ := hp117
      refine xj_mem (hm117.trans (mrs_th μ S _)) ?_
      exact xj_iret E hr hlk d_X7_behave_120 (by unfold rBv; rw [if_neg hb1, if_neg hb2, if_neg hb3, if_pos hb4]; exact ⟨rfl, rfl⟩)
    by_cases hb5 : μ 21 0 k = 5
    · refine xj_st (st' := [.inl 5]) (by rw [hb5]) ?_
      refine xj_tableIn (tgt := 121) (off := 93) E d_X7_behave_28 (by decide) (by decide) (by decide) (by decide) ?_
      refine xj_aload_n E d_X7_behave_121 rfl ?_
      refine xj_aload_n E d_X7_behave_122 rfl ?_
      refine xj_iload_n E d_X7_behave_123 rfl ?_
      refine xj_iload_n E d_X7_behave_124 rfl ?_
      refine xj_callV E (k_X7_proceedAndCatch l G hI n r k g S μ hn hkr hE hS) cw_X7_73 cv_X7_proceedAndCatch (by decide) rfl rfl rfl ⟨by show 4 * r + 4 + 1 ≤ 4 * r + 5; omega, by show 40 * (4 * r + 4) + 40 ≤ 40 * (4 * r + 5); omega⟩ (Nat.le_of_ble_eq_true rfl) d_X7_behave_125 ⟨Nat.zero_le _, Nat.zero_le _⟩ (fun r125 μ125 ho125 hp125 => ?_)
      obtain ⟨rfl, hm125⟩ := hp125
      refine xj_mem hm125 ?_
      exact xj_iret E hr hlk d_X7_behave_128 (by unfold rBv; rw [if_neg hb1, if_neg hb2, if_neg hb3, if_neg hb4, if_pos hb5]; exact ⟨rfl, rfl⟩)
    refine xj_tableOut (tgt := 129) E d_X7_behave_28 (sw5 hb1 hb2 hb3 hb4 hb5) (by decide) ?_
    refine xj_aload_n E d_X7_behave_129 rfl ?_
    refine xj_aload_n E d_X7_behave_130 rfl ?_
    refine xj_iload_n E d_X7_behave_131 rfl ?_
    refine xj_iload_n E d_X7_behave_132 rfl ?_
    refine xj_callV E (k_X7_proceed l G hI n r k g S μ hn hkr hE hS) cw_X7_70 cv_X7_proceed (by decide) rfl rfl rfl ⟨by show 4 * r + 3 + 1 ≤ 4 * r + 5; omega, by show 40 * (4 * r + 3) + 40 ≤ 40 * (4 * r + 5); omega⟩ (Nat.le_of_ble_eq_true rfl) d_X7_behave_133 ⟨Nat.zero_le _, Nat.zero_le _⟩ (fun r133 μ133 ho133 hp133 => ?_)
    obtain ⟨rfl, hm133⟩ := hp133
    refine xj_mem hm133 ?_
    exact xj_iret E hr hlk d_X7_behave_136 (by unfold rBv; rw [if_neg hb1, if_neg hb2, if_neg hb3, if_neg hb4, if_neg hb5]; exact ⟨rfl, rfl⟩)
  refine xj_aload_n E d_X7_behave_0 rfl ?_
  refine xj_geta E fl_X7_51 (by decide) rfl (by decide) rfl d_X7_behave_1 ?_
  refine xj_iload_n E d_X7_behave_4 rfl ?_
  refine xj_iald E (by decide) hin d_X7_behave_5 ?_
  refine xj_st (st' := [.inl (μ 20 0 k)]) (by rw [hcl]; rfl) ?_
  refine xj_istore E d_X7_behave_6 (by decide) rfl ?_
  refine xj_iload E d_X7_behave_8 rfl ?_
  refine xj_bipush (v := 16) E d_X7_behave_10 (by decide) ?_
  refine xj_icmp_ge (tgt := 19) E d_X7_behave_12 (by decide) (fun h12 => ?_) (fun h12 => ?_)
  · refine xj_iconst (v := 0) E d_X7_behave_19 (by decide) ?_
    refine xj_istore E d_X7_behave_20 (by decide) rfl ?_
    first
      | exact hsw 0 (Or.inr ⟨rfl, Int32.not_lt.mpr h12⟩)
      | exact hsw 1 (Or.inl ⟨rfl, Int32.not_le.mp h12⟩)
  refine xj_iconst (v := 1) E d_X7_behave_15 (by decide) ?_
  refine xj_goto (tgt := 20) E d_X7_behave_16 (by decide) ?_
  refine xj_istore E d_X7_behave_20 (by decide) rfl ?_
  first
    | exact hsw 0 (Or.inr ⟨rfl, Int32.not_lt.mpr h12⟩)
    | exact hsw 1 (Or.inl ⟨rfl, Int32.not_le.mp h12⟩)

set_option maxRecDepth 100000 in
set_option maxHeartbeats 4000000 in
/-- enter, at every place of the chain -/
theorem k_X7_enter (l : Launch) (G : XG) (hI : XI G) (μ : Mem) (n : Nat) (hn : n ≤ 21) (hc : μ 19 0 0 = nI n) : ∀ r, EnterOK l G μ n r := by
  intro r
  induction r with
  | zero =>
    intro k g S hk hS
    refine xj_met (by decide) hI (Nat.le_of_ble_eq_true rfl) ?_
    intro p e s m args below meth c E hr hlk
    have E : XE G (xA G) RX7 c_X7_enter 5 p s m args c := E
    refine xj_loc (L' := [some (.inr (22, 0)), some (.inr (19, 0)), some (.inl (nI k)), some (.inl g), none]) rfl ?_
    have hcl : (nI k).toNatClampNeg = k := cl_nI (by omega)
    have hcl2 : (nI S.1).toNatClampNeg = S.1 := cl_nI (by omega)
    refine xj_iload_n E d_X7_enter_0 rfl ?_
    refine xj_if_lt (tgt := 12) E d_X7_enter_1 (by decide) (fun h1 => absurd h1 (nI_pos (by omega))) (fun h1 => ?_)
    refine xj_iload_n E d_X7_enter_4 rfl ?_
    refine xj_aload_n E d_X7_enter_5 rfl ?_
    refine xj_geti E fl_X7_42 (by decide) rfl (by decide) rfl d_X7_enter_6 ?_
    refine xj_icmp_lt (tgt := 14) E d_X7_enter_9 (by decide) (fun h9 => absurd (show nI k < nI n by rw [← hc]; exact h9) (nI_nlt (by omega) (by omega))) (fun h9 => ?_)
    refine xj_iconst (v := 0) E d_X7_enter_12 (by decide) ?_
    exact xj_iret E hr hlk d_X7_enter_13 ⟨rfl, rfl⟩
  | succ r ih =>
    intro k g S hk hS
    refine xj_met (by decide) hI (Nat.le_of_ble_eq_true rfl) ?_
    intro p e s m args below meth c E hr hlk
    have E : XE G (xA G) RX7 c_X7_enter 5 p s m args c := E
    refine xj_loc (L' := [some (.inr (22, 0)), some (.inr (19, 0)), some (.inl (nI k)), some (.inl g), none]) rfl ?_
    have hcl : (nI k).toNatClampNeg = k := cl_nI (by omega)
    have hcl2 : (nI S.1).toNatClampNeg = S.1 := cl_nI (by omega)
    refine xj_iload_n E d_X7_enter_0 rfl ?_
    refine xj_if_lt (tgt := 12) E d_X7_enter_1 (by decide) (fun h1 => absurd h1 (nI_pos (by omega))) (fun h1 => ?_)
    refine xj_iload_n E d_X7_enter_4 rfl ?_
    refine xj_aload_n E d_X7_enter_5 rfl ?_
    refine xj_geti E fl_X7_42 (by decide) rfl (by decide) rfl d_X7_enter_6 ?_
    refine xj_icmp_lt (tgt := 14) E d_X7_enter_9 (by decide) (fun h9 => ?_) (fun h9 => absurd (show mrs μ S 19 0 0 = nI n from hc) (fun q => h9 (by rw [q]; exact nI_lt (by omega) (by omega))))
    refine xj_aload_n E d_X7_enter_14 rfl ?_
    refine xj_geti E fl_X7_15 (by decide) rfl (by decide) rfl d_X7_enter_15 ?_
    refine xj_bipush (v := 64) E d_X7_enter_18 (by decide) ?_
    refine xj_icmp_lt (tgt := 30) E d_X7_enter_20 (by decide) (fun h20 => ?_) (fun h20 => ?_)
    · have hlt : S.1 < 64 := (nI_ltI (b := 64) (by omega) (by omega)).mp h20
      refine xj_aload_n E d_X7_enter_30 rfl ?_
      refine xj_geta E fl_X7_51 (by decide) rfl (by decide) rfl d_X7_enter_31 ?_
      refine xj_iload_n E d_X7_enter_34 rfl ?_
      refine xj_iald E (by decide) (show vp_in (nI k) 21 from in_nI (by omega) (by omega)) d_X7_enter_35 ?_
      refine xj_st (st' := [.inl (μ 20 0 k)]) (by rw [hcl]; rfl) ?_
      refine xj_istore E d_X7_enter_36 (by decide) rfl ?_
      refine xj_aload_n E d_X7_enter_38 rfl ?_
      refine xj_geta E fl_X7_9 (by decide) rfl (by decide) rfl d_X7_enter_39 ?_
      refine xj_aload_n E d_X7_enter_42 rfl ?_
      refine xj_geti E fl_X7_15 (by decide) rfl (by decide) rfl d_X7_enter_43 ?_
      refine xj_iload E d_X7_enter_46 rfl ?_
      refine xj_iast E (by decide) (show vp_in (nI S.1) 64 from in_nI hlt (by omega)) d_X7_enter_48 ?_
      refine xj_aload_n E d_X7_enter_49 rfl ?_
      refine xj_dup E d_X7_enter_50 ?_
      refine xj_geti E fl_X7_15 (by decide) rfl (by decide) rfl d_X7_enter_51 ?_
      refine xj_iconst (v := 1) E d_X7_enter_54 (by decide) ?_
      refine xj_iadd E d_X7_enter_55 ?_
      refine xj_put E fp_X7_15 (by decide) rfl (by decide) rfl (narrow_i _) d_X7_enter_56 ?_
      refine xj_mem (μ' := mrs μ (rLog S (μ 20 0 k))) (by
        rw [← mrs_log, ← nI_1]
        show mset (mset (mrs μ S) 23 0 (nI S.1).toNatClampNeg (μ 20 0 k)) 22 0 1 (nI S.1 + 1) = _
        rw [hcl2]) ?_
      refine xj_iload E d_X7_enter_59 rfl ?_
      refine xj_bipush (v := 32) E d_X7_enter_61 (by decide) ?_
      refine xj_icmp_ne (tgt := 74) E d_X7_enter_63 (by decide) (fun h63 => ?_) (fun h63 => ?_)
      · refine xj_aload_n E d_X7_enter_74 rfl ?_
        refine xj_aload_n E d_X7_enter_75 rfl ?_
        refine xj_iload_n E d_X7_enter_76 rfl ?_
        refine xj_iload_n E d_X7_enter_77 rfl ?_
        refine xj_callV E (k_X7_behave l G hI n r k g (rLog S (μ 20 0 k)) μ hn (by omega) ih hlt) cw_X7_57 cv_X7_behave (by decide) rfl rfl rfl ⟨by show 4 * r + 5 + 1 ≤ 4 * (r + 1) + 2; omega, by show 40 * (4 * r + 5) + 40 ≤ 40 * (4 * (r + 1) + 2); omega⟩ (Nat.le_of_ble_eq_true rfl) d_X7_enter_78 ⟨Nat.zero_le _, Nat.zero_le _⟩ (fun r78 μ78 ho78 hp78 => ?_)
        obtain ⟨rfl, hm78⟩ := hp78
        refine xj_mem hm78 ?_
        exact xj_iret E hr hlk d_X7_enter_81 (by first | (unfold rn; rw [if_pos hlt, if_pos h63]; exact ⟨rfl, rfl⟩) | (unfold rn; rw [if_pos hlt, if_neg h63]; exact ⟨rfl, rfl⟩))
      refine xj_aload_n E d_X7_enter_66 rfl ?_
      refine xj_iload_n E d_X7_enter_67 rfl ?_
      refine xj_callV E (k_X7_reachTarget l G hI g (rLog S (μ 20 0 k)) μ) cw_X7_54 cv_X7_reachTarget (by decide) rfl rfl rfl ⟨by show 1 + 1 ≤ 4 * (r + 1) + 2; omega, by show 40 * (1) + 40 ≤ 40 * (4 * (r + 1) + 2); omega⟩ (Nat.le_of_ble_eq_true rfl) d_X7_enter_68 ⟨Nat.zero_le _, Nat.zero_le _⟩ (fun r68 μ68 ho68 hp68 => ?_)
      obtain ⟨rfl, hm68⟩ := hp68
      refine xj_mem hm68 ?_
      refine xj_goto (tgt := 81) E d_X7_enter_71 (by decide) ?_
      exact xj_iret E hr hlk d_X7_enter_81 (by first | (unfold rn; rw [if_pos hlt, if_pos h63]; exact ⟨rfl, rfl⟩) | (unfold rn; rw [if_pos hlt, if_neg h63]; exact ⟨rfl, rfl⟩))
    refine xj_aload_n E d_X7_enter_23 rfl ?_
    refine xj_bipush (v := 99) E d_X7_enter_24 (by decide) ?_
    refine xj_callV E (k_X7_fail l G hI _ _) cw_X7_47 cv_X7_fail (by decide) rfl rfl rfl ⟨by show 0 + 1 ≤ 4 * (r + 1) + 2; omega, by show 40 * (0) + 40 ≤ 40 * (4 * (r + 1) + 2); omega⟩ (Nat.le_of_ble_eq_true rfl) d_X7_enter_26 ⟨Nat.zero_le _, Nat.zero_le _⟩ (fun r26 μ26 ho26 hp26 => ?_)
    obtain ⟨rfl, hm26⟩ := hp26
    refine xj_mem (hm26.trans (mrs_th μ S _)) ?_
    exact xj_iret E hr hlk d_X7_enter_29 (by unfold rn; rw [if_neg (fun q => h20 (nI_lt (b := 64) q (by omega)))]; exact ⟨rfl, rfl⟩)

/-- the memory behind a run -/
def mrun (μ : Mem) (y z : Int32) (q : Int32 × RS) : Mem := mset (mrs (mset (mset (mset (mset (mset (mset μ 22 0 1 0) 22 0 2 0) 22 0 3 0) 22 0 4 y) 22 0 5 z) 22 0 6 0) q.2) 22 0 2 (if q.2.2.2.2 = 0 then q.1 else 0)
theorem mrs_start (μ : Mem) (y z a : Int32) : mset (mset (mset (mset (mset (mset μ 22 0 1 0) 22 0 2 0) 22 0 3 0) 22 0 4 y) 22 0 5 z) 22 0 6 a = mrs (mset (mset (mset (mset (mset (mset μ 22 0 1 0) 22 0 2 0) 22 0 3 0) 22 0 4 y) 22 0 5 z) 22 0 6 0) (0, μ 23 0, a, 0) := by
  refine mrs_22 (S := (0, μ 23 0, a, 0)) rfl ?_ (fun f i h1 h2 => by rw [mset_ne h2, mset_ne h2, mset_ne h2, mset_ne h2, mset_ne h2, mset_ne h2, mset_ne h2, mset_ne h2, mset_ne h2, mset_ne h2, mset_ne h2, mset_ne h2])
  funext j
  rw [mset_same, mset_same, mset_same, mset_same, mset_same, mset_same, mset_same]
  by_cases h6 : j = 6
  · subst h6; simp [upd]
  · by_cases h3 : j = 3
    · subst h3; simp [upd]
    · by_cases h1 : j = 1
      · subst h1; simp [upd]; rfl
      · simp [mset_same, upd, h6, h3, h1]

set_option maxRecDepth 100000 in
set_option maxHeartbeats 4000000 in
/-- X7 run -/
theorem k_X7_run (l : Launch) (G : XG) (hI : XI G) (n : Nat) (y a z : Int32) (μ : Mem) (hn : n ≤ 21) (hc : μ 19 0 0 = nI n) (hz : z = 0 ∨ z = 1) : XMet l G y_X7_run c_X7_run 6 none 87 [.inr (22, 0), .inr (19, 0), .inl y, .inl a, .inl z] μ (fun r μ' => r = none ∧ μ' = mrun μ y z (rn (μ 20 0) (μ 21 0) y z n 0 a (0, μ 23 0, a, 0))) := by
  refine xj_met (by decide) hI (Nat.le_of_ble_eq_true rfl) ?_
  intro p e s m args below meth c E hr hlk
  have E : XE G (xA G) RX7 c_X7_run 6 p s m args c := E
  refine xj_loc (L' := [some (.inr (22, 0)), some (.inr (19, 0)), some (.inl y), some (.inl a), some (.inl z), none]) rfl ?_
  refine xj_aload_n E d_X7_run_0 rfl ?_
  refine xj_callV E (k_X7_forget l G hI _) cw_X7_25 cv_X7_forget (by decide) rfl rfl rfl ⟨by decide, by decide⟩ (Nat.le_of_ble_eq_true rfl) d_X7_run_1 ⟨Nat.zero_le _, Nat.zero_le _⟩ (fun r1 μ1 ho1 hp1 => ?_)
  obtain ⟨rfl, hm1⟩ := hp1
  refine xj_mem hm1 ?_
  refine xj_aload_n E d_X7_run_4 rfl ?_
  refine xj_iload_n E d_X7_run_5 rfl ?_
  refine xj_put E fp_X7_28 (by decide) rfl (by decide) rfl (narrow_i _) d_X7_run_6 ?_
  refine xj_aload_n E d_X7_run_9 rfl ?_
  refine xj_iload E d_X7_run_10 rfl ?_
  refine xj_put E fp_X7_31 (by decide) rfl (by decide) rfl (narrow_z hz) d_X7_run_12 ?_
  refine xj_aload_n E d_X7_run_15 rfl ?_
  refine xj_iload_n E d_X7_run_16 rfl ?_
  refine xj_put E fp_X7_35 (by decide) rfl (by decide) rfl (narrow_i _) d_X7_run_17 ?_
  refine xj_mem (mrs_start μ y z a) ?_
  refine xj_aload_n E d_X7_run_20 rfl ?_
  refine xj_aload_n E d_X7_run_21 rfl ?_
  refine xj_iconst (v := 0) E d_X7_run_22 (by decide) ?_
  refine xj_iload_n E d_X7_run_23 rfl ?_
  refine xj_callV E (k_X7_enter l G hI (mset (mset (mset (mset (mset (mset μ 22 0 1 0) 22 0 2 0) 22 0 3 0) 22 0 4 y) 22 0 5 z) 22 0 6 0) n hn hc n 0 a (0, μ 23 0, a, 0) (by omega) (Nat.zero_le _)) cw_X7_38 cv_X7_enter (by decide) rfl rfl rfl ⟨by show 4 * n + 2 + 1 ≤ 87; omega, by show 40 * (4 * n + 2) + 40 ≤ 40 * 87; omega⟩ (Nat.le_of_ble_eq_true rfl) d_X7_run_24 ⟨Nat.zero_le _, Nat.zero_le _⟩ (fun r24 μ24 ho24 hp24 => ?_)
  obtain ⟨rfl, hm24⟩ := hp24
  refine xj_mem (μ' := mrs (mset (mset (mset (mset (mset (mset μ 22 0 1 0) 22 0 2 0) 22 0 3 0) 22 0 4 y) 22 0 5 z) 22 0 6 0) (rn (μ 20 0) (μ 21 0) y z n 0 a (0, μ 23 0, a, 0)).2) (hm24.trans rfl) ?_
  refine xj_istore E d_X7_run_27 (by decide) rfl ?_
  refine xj_aload_n E d_X7_run_29 rfl ?_
  refine xj_aload_n E d_X7_run_30 rfl ?_
  refine xj_geti E fl_X7_22 (by decide) rfl (by decide) rfl d_X7_run_31 ?_
  refine xj_if_ne (tgt := 42) E d_X7_run_34 (by decide) (fun h34 => ?_) (fun h34 => ?_)
  · refine xj_iconst (v := 0) E d_X7_run_42 (by decide) ?_
    refine xj_put E fp_X7_19 (by decide) rfl (by decide) rfl (narrow_i _) d_X7_run_43 ?_
    exact xj_vret E hr hlk d_X7_run_46 (by first | exact ⟨rfl, by unfold mrun; rw [if_pos (show (rn (μ 20 0) (μ 21 0) y z n 0 a (0, μ 23 0, a, 0)).2.2.2.2 = 0 from h34)]; rfl⟩ | exact ⟨rfl, by unfold mrun; rw [if_neg (show ¬ (rn (μ 20 0) (μ 21 0) y z n 0 a (0, μ 23 0, a, 0)).2.2.2.2 = 0 from h34)]⟩)
  refine xj_iload E d_X7_run_37 rfl ?_
  refine xj_goto (tgt := 43) E d_X7_run_39 (by decide) ?_
  refine xj_put E fp_X7_19 (by decide) rfl (by decide) rfl (narrow_i _) d_X7_run_43 ?_
  exact xj_vret E hr hlk d_X7_run_46 (by first | exact ⟨rfl, by unfold mrun; rw [if_pos (show (rn (μ 20 0) (μ 21 0) y z n 0 a (0, μ 23 0, a, 0)).2.2.2.2 = 0 from h34)]; rfl⟩ | exact ⟨rfl, by unfold mrun; rw [if_neg (show ¬ (rn (μ 20 0) (μ 21 0) y z n 0 a (0, μ 23 0, a, 0)).2.2.2.2 = 0 from h34)]⟩)
