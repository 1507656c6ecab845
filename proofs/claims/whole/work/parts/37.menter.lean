/-- the reference's answer on its way -/
def mAns (μ : Mem) (z v : Int32) : Mem := mset (mset μ 24 0 40 z) 24 0 41 v
/-- the behaviour of an element -/
def mBh (μ : Mem) (e : Int32) : Int32 := if 16 ≤ e then μ 45 0 (e - 16).toNatClampNeg else μ 40 0 e.toNatClampNeg
def okE (e : Int32) : Prop := (16 ≤ e → vp_in (e - 16) 4) ∧ (¬ 16 ≤ e → vp_in e 8)

set_option maxRecDepth 100000 in
set_option maxHeartbeats 4000000 in
/-- X10 answer -/
theorem k_X10_answer (l : Launch) (G : XG) (hI : XI G) (z v : Int32) (μ : Mem) (hz : z = 0 ∨ z = 1) : XMet l G y_X10_answer c_X10_answer 3 none 0 [.inr (24, 0), .inl z, .inl v] μ (fun r μ' => r = none ∧ μ' = mAns μ z v) := by
  refine xj_met (by decide) hI (Nat.le_of_ble_eq_true rfl) ?_
  intro p e s m args below meth c E hr hlk
  have E : XE G (xA G) RX10 c_X10_answer 3 p s m args c := E
  refine xj_loc (L' := [some (.inr (24, 0)), some (.inl z), some (.inl v)]) rfl ?_
  refine xj_aload_n E d_X10_answer_0 rfl ?_
  refine xj_iload_n E d_X10_answer_1 rfl ?_
  refine xj_put E fp_X10_175 (by decide) rfl (by decide) rfl (narrow_z hz) d_X10_answer_2 ?_
  refine xj_aload_n E d_X10_answer_5 rfl ?_
  refine xj_iload_n E d_X10_answer_6 rfl ?_
  refine xj_put E fp_X10_178 (by decide) rfl (by decide) rfl (narrow_i _) d_X10_answer_7 ?_
  exact xj_vret E hr hlk d_X10_answer_10 (⟨rfl, rfl⟩)

set_option maxRecDepth 100000 in
set_option maxHeartbeats 4000000 in
/-- X10 behaviourOf -/
theorem k_X10_behaviourOf (l : Launch) (G : XG) (hI : XI G) (x : Int32) (μ : Mem) (hx : okE x) : XMet l G y_X10_behaviourOf c_X10_behaviourOf 2 (some .int) 0 [.inr (24, 0), .inl x] μ (fun r μ' => r = some (.inl (mBh μ x)) ∧ μ' = μ) := by
  refine xj_met (by decide) hI (Nat.le_of_ble_eq_true rfl) ?_
  intro p e s m args below meth c E hr hlk
  have E : XE G (xA G) RX10 c_X10_behaviourOf 2 p s m args c := E
  refine xj_loc (L' := [some (.inr (24, 0)), some (.inl x)]) rfl ?_
  refine xj_iload_n E d_X10_behaviourOf_0 rfl ?_
  refine xj_bipush (v := 16) E d_X10_behaviourOf_1 (by decide) ?_
  refine xj_icmp_ge (tgt := 15) E d_X10_behaviourOf_3 (by decide) (fun h3 => ?_) (fun h3 => ?_)
  · refine xj_aload_n E d_X10_behaviourOf_15 rfl ?_
    refine xj_geta E fl_X10_41 (by decide) rfl (by decide) rfl d_X10_behaviourOf_16 ?_
    refine xj_iload_n E d_X10_behaviourOf_19 rfl ?_
    refine xj_bipush (v := 16) E d_X10_behaviourOf_20 (by decide) ?_
    refine xj_isub E d_X10_behaviourOf_22 ?_
    refine xj_iald E (by decide) (hx.1 h3) d_X10_behaviourOf_23 ?_
    exact xj_iret E hr hlk d_X10_behaviourOf_24 (by first | exact ⟨by unfold mBh; rw [if_pos h3], rfl⟩ | exact ⟨by unfold mBh; rw [if_neg h3], rfl⟩)
  refine xj_aload_n E d_X10_behaviourOf_6 rfl ?_
  refine xj_geta E fl_X10_29 (by decide) rfl (by decide) rfl d_X10_behaviourOf_7 ?_
  refine xj_iload_n E d_X10_behaviourOf_10 rfl ?_
  refine xj_iald E (by decide) (hx.2 h3) d_X10_behaviourOf_11 ?_
  refine xj_goto (tgt := 24) E d_X10_behaviourOf_12 (by decide) ?_
  exact xj_iret E hr hlk d_X10_behaviourOf_24 (by first | exact ⟨by unfold mBh; rw [if_pos h3], rfl⟩ | exact ⟨by unfold mBh; rw [if_neg h3], rfl⟩)

def mFz (μ : Mem) (j q : Nat) : Int32 := if q < 4 ∧ ¬ μ 48 0 (4 * j + q) &&& 4 = 0 then 1 else 0
theorem mFz_01 (μ : Mem) (j q : Nat) : mFz μ j q = 0 ∨ mFz μ j q = 1 := by
  unfold mFz
  split
  · exact Or.inr rfl
  · exact Or.inl rfl

theorem le3q {q : Nat} (h : nI q < 4) : nI q ≤ 3 := by
  rw [Int32.le_iff_toInt_le]
  rw [Int32.lt_iff_toInt_lt] at h
  rw [show (3 : Int32).toInt = 3 by decide]
  rw [show (4 : Int32).toInt = 4 by decide] at h
  omega
theorem le3r {q : Nat} (h : nI q ≤ 3) : nI q < 4 := by
  rw [Int32.lt_iff_toInt_lt]
  rw [Int32.le_iff_toInt_le] at h
  rw [show (3 : Int32).toInt = 3 by decide] at h
  rw [show (4 : Int32).toInt = 4 by decide]
  omega

set_option maxRecDepth 100000 in
set_option maxHeartbeats 4000000 in
/-- X10 enter -/
theorem k_X10_enter (l : Launch) (G : XG) (hI : XI G) (k j q : Nat) (g : Int32) (μ : Mem) (hk : k < 24) (hj : j < 4) (hq : q < 7) (hok : ¬ μ 61 0 k = 32 → okE (μ 61 0 k)) (hg : (if 0 < k ∧ 16 ≤ μ 61 0 (k - 1) then μ 62 0 (k - 1) else μ 24 0 39) = g) : XMet l G y_X10_enter c_X10_enter 6 (some .boolean) 1 [.inr (24, 0), .inl (nI k), .inl (nI j), .inl (nI q)] μ (fun r μ' => ((μ 61 0 k) = 32 ∧ r = some (.inl 0) ∧ μ' = mAns (mset μ 62 0 k g) (mFz μ j q) (if mFz μ j q = 0 then (if nI q < 4 then 3 * g + nI q else 7) else 33 + nI q)) ∨ (¬ (μ 61 0 k) = 32 ∧ (mBh μ (μ 61 0 k)) = 2 ∧ r = some (.inl 0) ∧ μ' = mAns (mset μ 62 0 k g) 0 (if (μ 61 0 k) < 16 then μ 24 0 39 else g)) ∨ (¬ (μ 61 0 k) = 32 ∧ (mBh μ (μ 61 0 k)) = 4 ∧ r = some (.inl 0) ∧ μ' = mAns (mset μ 62 0 k g) 1 (1 + (μ 61 0 k))) ∨ (¬ (μ 61 0 k) = 32 ∧ (mBh μ (μ 61 0 k)) = 3 ∧ ¬ nI q < 4 ∧ r = some (.inl 0) ∧ μ' = mAns (mset μ 62 0 k g) 1 50) ∨ (¬ (μ 61 0 k) = 32 ∧ ¬ (mBh μ (μ 61 0 k)) = 2 ∧ ¬ (mBh μ (μ 61 0 k)) = 4 ∧ ¬ ((mBh μ (μ 61 0 k)) = 3 ∧ ¬ nI q < 4) ∧ r = some (.inl 1) ∧ μ' = mset (mset (mset (mset μ 62 0 k g) 63 0 k 1) 24 0 39 (if (mBh μ (μ 61 0 k)) = 3 ∧ (μ 61 0 k) < 16 then μ 24 0 39 + 1 else μ 24 0 39)) 62 0 k (if (mBh μ (μ 61 0 k)) = 3 then g + 1 else g))) := by
  refine xj_met (by decide) hI (Nat.le_of_ble_eq_true rfl) ?_
  intro p e s m args below meth c E hr hlk
  have E : XE G (xA G) RX10 c_X10_enter 6 p s m args c := E
  refine xj_loc (L' := [some (.inr (24, 0)), some (.inl (nI k)), some (.inl (nI j)), some (.inl (nI q)), none, none]) rfl ?_
  have hck : (nI k).toNatClampNeg = k := cl_nI (by omega)
  have hik : vp_in (nI k) 24 := in_nI (by omega) (by omega)
  have s80 : (μ 61 0 k) = 32 → XJ G (xA G) 6 p l e (xr 1) s m args below meth c 0 0 (MQ below (xQ G (fun r μ' => ((μ 61 0 k) = 32 ∧ r = some (.inl 0) ∧ μ' = mAns (mset μ 62 0 k g) (mFz μ j q) (if mFz μ j q = 0 then (if nI q < 4 then 3 * g + nI q else 7) else 33 + nI q)) ∨ (¬ (μ 61 0 k) = 32 ∧ (mBh μ (μ 61 0 k)) = 2 ∧ r = some (.inl 0) ∧ μ' = mAns (mset μ 62 0 k g) 0 (if (μ 61 0 k) < 16 then μ 24 0 39 else g)) ∨ (¬ (μ 61 0 k) = 32 ∧ (mBh μ (μ 61 0 k)) = 4 ∧ r = some (.inl 0) ∧ μ' = mAns (mset μ 62 0 k g) 1 (1 + (μ 61 0 k))) ∨ (¬ (μ 61 0 k) = 32 ∧ (mBh μ (μ 61 0 k)) = 3 ∧ ¬ nI q < 4 ∧ r = some (.inl 0) ∧ μ' = mAns (mset μ 62 0 k g) 1 50) ∨ (¬ (μ 61 0 k) = 32 ∧ ¬ (mBh μ (μ 61 0 k)) = 2 ∧ ¬ (mBh μ (μ 61 0 k)) = 4 ∧ ¬ ((mBh μ (μ 61 0 k)) = 3 ∧ ¬ nI q < 4) ∧ r = some (.inl 1) ∧ μ' = mset (mset (mset (mset μ 62 0 k g) 63 0 k 1) 24 0 39 (if (mBh μ (μ 61 0 k)) = 3 ∧ (μ 61 0 k) < 16 then μ 24 0 39 + 1 else μ 24 0 39)) 62 0 k (if (mBh μ (μ 61 0 k)) = 3 then g + 1 else g)))) args s 0 0 (xA G)) 80 [some (.inr (24, 0)), some (.inl (nI k)), some (.inl (nI j)), some (.inl (nI q)), some (.inl ((μ 61 0 k))), some (.inl (mFz μ j q))] [] (mset μ 62 0 k g) := by
    intro h50
    refine xj_aload_n E d_X10_enter_80 rfl ?_
    refine xj_iload E d_X10_enter_81 rfl ?_
    refine xj_iload E d_X10_enter_83 rfl ?_
    refine xj_if_eq (tgt := 95) E d_X10_enter_85 (by decide) (fun h85 => ?_) (fun h85 => ?_)
    · refine xj_iload_n E d_X10_enter_95 rfl ?_
      refine xj_iconst (v := 4) E d_X10_enter_96 (by decide) ?_
      refine xj_icmp_ge (tgt := 113) E d_X10_enter_97 (by decide) (fun h97 => ?_) (fun h97 => ?_)
      · refine xj_bipush (v := 7) E d_X10_enter_113 (by decide) ?_
        refine xj_callV E (k_X10_answer l G hI (mFz μ j q) _ _ (mFz_01 μ j q)) cw_X10_184 cv_X10_answer (by decide) rfl rfl rfl ⟨by decide, by decide⟩ (Nat.le_of_ble_eq_true rfl) d_X10_enter_115 ⟨Nat.zero_le _, Nat.zero_le _⟩ (fun r115 μ115 ho115 hp115 => ?_)
        obtain ⟨rfl, hm115⟩ := hp115
        refine xj_mem hm115 ?_
        refine xj_iconst (v := 0) E d_X10_enter_118 (by decide) ?_
        exact xj_zret E hr hlk (Or.inl rfl) d_X10_enter_119 (by first | exact Or.inl ⟨h50, rfl, by rw [if_neg h85]⟩ | exact Or.inl ⟨h50, rfl, by rw [if_pos h85, if_neg (Int32.not_lt.mpr h97)]⟩ | exact Or.inl ⟨h50, rfl, by rw [if_pos h85, if_pos (Int32.not_le.mp h97)]⟩)
      refine xj_iconst (v := 3) E d_X10_enter_100 (by decide) ?_
      refine xj_aload_n E d_X10_enter_101 rfl ?_
      refine xj_geta E fl_X10_80 (by decide) rfl (by decide) rfl d_X10_enter_102 ?_
      refine xj_iload_n E d_X10_enter_105 rfl ?_
      refine xj_iald E (by decide) hik d_X10_enter_106 ?_
      refine xj_st (st' := [.inl g, .inl 3, .inl (mFz μ j q), .inr (24, 0)]) (by rw [hck]; show ([.inl (mset μ 62 0 k g 62 0 k), .inl 3, .inl (mFz μ j q), .inr (24, 0)] : List XV) = _; rw [mset_at]) ?_
      refine xj_imul E d_X10_enter_107 ?_
      refine xj_iload_n E d_X10_enter_108 rfl ?_
      refine xj_iadd E d_X10_enter_109 ?_
      refine xj_goto (tgt := 115) E d_X10_enter_110 (by decide) ?_
      refine xj_callV E (k_X10_answer l G hI (mFz μ j q) _ _ (mFz_01 μ j q)) cw_X10_184 cv_X10_answer (by decide) rfl rfl rfl ⟨by decide, by decide⟩ (Nat.le_of_ble_eq_true rfl) d_X10_enter_115 ⟨Nat.zero_le _, Nat.zero_le _⟩ (fun r115 μ115 ho115 hp115 => ?_)
      obtain ⟨rfl, hm115⟩ := hp115
      refine xj_mem hm115 ?_
      refine xj_iconst (v := 0) E d_X10_enter_118 (by decide) ?_
      exact xj_zret E hr hlk (Or.inl rfl) d_X10_enter_119 (by first | exact Or.inl ⟨h50, rfl, by rw [if_neg h85]⟩ | exact Or.inl ⟨h50, rfl, by rw [if_pos h85, if_neg (Int32.not_lt.mpr h97)]⟩ | exact Or.inl ⟨h50, rfl, by rw [if_pos h85, if_pos (Int32.not_le.mp h97)]⟩)
    refine xj_bipush (v := 33) E d_X10_enter_88 (by decide) ?_
    refine xj_iload_n E d_X10_enter_90 rfl ?_
    refine xj_iadd E d_X10_enter_91 ?_
    refine xj_goto (tgt := 115) E d_X10_enter_92 (by decide) ?_
    refine xj_callV E (k_X10_answer l G hI (mFz μ j q) _ _ (mFz_01 μ j q)) cw_X10_184 cv_X10_answer (by decide) rfl rfl rfl ⟨by decide, by decide⟩ (Nat.le_of_ble_eq_true rfl) d_X10_enter_115 ⟨Nat.zero_le _, Nat.zero_le _⟩ (fun r115 μ115 ho115 hp115 => ?_)
    obtain ⟨rfl, hm115⟩ := hp115
    refine xj_mem hm115 ?_
    refine xj_iconst (v := 0) E d_X10_enter_118 (by decide) ?_
    exact xj_zret E hr hlk (Or.inl rfl) d_X10_enter_119 (by first | exact Or.inl ⟨h50, rfl, by rw [if_neg h85]⟩ | exact Or.inl ⟨h50, rfl, by rw [if_pos h85, if_neg (Int32.not_lt.mpr h97)]⟩ | exact Or.inl ⟨h50, rfl, by rw [if_pos h85, if_pos (Int32.not_le.mp h97)]⟩)
  have hb2 : mBh (mset μ 62 0 k g) (μ 61 0 k) = (mBh μ (μ 61 0 k)) := rfl
  have s120 : ¬ (μ 61 0 k) = 32 → XJ G (xA G) 6 p l e (xr 1) s m args below meth c 0 0 (MQ below (xQ G (fun r μ' => ((μ 61 0 k) = 32 ∧ r = some (.inl 0) ∧ μ' = mAns (mset μ 62 0 k g) (mFz μ j q) (if mFz μ j q = 0 then (if nI q < 4 then 3 * g + nI q else 7) else 33 + nI q)) ∨ (¬ (μ 61 0 k) = 32 ∧ (mBh μ (μ 61 0 k)) = 2 ∧ r = some (.inl 0) ∧ μ' = mAns (mset μ 62 0 k g) 0 (if (μ 61 0 k) < 16 then μ 24 0 39 else g)) ∨ (¬ (μ 61 0 k) = 32 ∧ (mBh μ (μ 61 0 k)) = 4 ∧ r = some (.inl 0) ∧ μ' = mAns (mset μ 62 0 k g) 1 (1 + (μ 61 0 k))) ∨ (¬ (μ 61 0 k) = 32 ∧ (mBh μ (μ 61 0 k)) = 3 ∧ ¬ nI q < 4 ∧ r = some (.inl 0) ∧ μ' = mAns (mset μ 62 0 k g) 1 50) ∨ (¬ (μ 61 0 k) = 32 ∧ ¬ (mBh μ (μ 61 0 k)) = 2 ∧ ¬ (mBh μ (μ 61 0 k)) = 4 ∧ ¬ ((mBh μ (μ 61 0 k)) = 3 ∧ ¬ nI q < 4) ∧ r = some (.inl 1) ∧ μ' = mset (mset (mset (mset μ 62 0 k g) 63 0 k 1) 24 0 39 (if (mBh μ (μ 61 0 k)) = 3 ∧ (μ 61 0 k) < 16 then μ 24 0 39 + 1 else μ 24 0 39)) 62 0 k (if (mBh μ (μ 61 0 k)) = 3 then g + 1 else g)))) args s 0 0 (xA G)) 120 [some (.inr (24, 0)), some (.inl (nI k)), some (.inl (nI j)), some (.inl (nI q)), some (.inl ((μ 61 0 k))), none] [] (mset μ 62 0 k g) := by
    intro h50
    refine xj_aload_n E d_X10_enter_120 rfl ?_
    refine xj_iload E d_X10_enter_121 rfl ?_
    refine xj_callV E (k_X10_behaviourOf l G hI _ _ (hok h50)) cw_X10_188 cv_X10_behaviourOf (by decide) rfl rfl rfl ⟨by decide, by decide⟩ (Nat.le_of_ble_eq_true rfl) d_X10_enter_123 ⟨Nat.zero_le _, Nat.zero_le _⟩ (fun r123 μ123 ho123 hp123 => ?_)
    obtain ⟨rfl, hm123⟩ := hp123
    refine xj_mem hm123 ?_
    rw [hb2]
    refine xj_istore E d_X10_enter_126 (by decide) rfl ?_
    refine xj_iload E d_X10_enter_128 rfl ?_
    refine xj_iconst (v := 2) E d_X10_enter_130 (by decide) ?_
    refine xj_icmp_ne (tgt := 162) E d_X10_enter_131 (by decide) (fun h131 => ?_) (fun h131 => ?_)
    · refine xj_iload E d_X10_enter_162 rfl ?_
      refine xj_iconst (v := 4) E d_X10_enter_164 (by decide) ?_
      refine xj_icmp_ne (tgt := 180) E d_X10_enter_165 (by decide) (fun h165 => ?_) (fun h165 => ?_)
      · refine xj_iload E d_X10_enter_180 rfl ?_
        refine xj_iconst (v := 3) E d_X10_enter_182 (by decide) ?_
        refine xj_icmp_ne (tgt := 201) E d_X10_enter_183 (by decide) (fun h183 => ?_) (fun h183 => ?_)
        · refine xj_aload_n E d_X10_enter_201 rfl ?_
          refine xj_geta E fl_X10_83 (by decide) rfl (by decide) rfl d_X10_enter_202 ?_
          refine xj_iload_n E d_X10_enter_205 rfl ?_
          refine xj_iconst (v := 1) E d_X10_enter_206 (by decide) ?_
          refine xj_iast E (by decide) hik d_X10_enter_207 ?_
          refine xj_mem (μ' := mset (mset μ 62 0 k g) 63 0 k 1) (by rw [hck]) ?_
          refine xj_aload_n E d_X10_enter_208 rfl ?_
          refine xj_iload E d_X10_enter_209 rfl ?_
          refine xj_iconst (v := 3) E d_X10_enter_211 (by decide) ?_
          refine xj_icmp_ne (tgt := 231) E d_X10_enter_212 (by decide) (fun h212 => ?_) (fun h212 => ?_)
          · refine xj_aload_n E d_X10_enter_231 rfl ?_
            refine xj_geti E fl_X10_181 (by decide) rfl (by decide) rfl d_X10_enter_232 ?_
            refine xj_st (st' := [.inl (if (mBh μ (μ 61 0 k)) = 3 ∧ (μ 61 0 k) < 16 then μ 24 0 39 + 1 else μ 24 0 39), .inr (24, 0)]) (by first | (rw [if_pos ⟨h212, Int32.not_le.mp h219⟩]; rfl) | (rw [if_neg (fun z => Int32.not_lt.mpr h219 z.2)]; rfl) | (rw [if_neg (fun z => h212 z.1)]; rfl)) ?_
            refine xj_put E fp_X10_181 (by decide) rfl (by decide) rfl (narrow_i _) d_X10_enter_235 ?_
            refine xj_aload_n E d_X10_enter_238 rfl ?_
            refine xj_geta E fl_X10_80 (by decide) rfl (by decide) rfl d_X10_enter_239 ?_
            refine xj_iload_n E d_X10_enter_242 rfl ?_
            refine xj_iload E d_X10_enter_243 rfl ?_
            refine xj_iconst (v := 3) E d_X10_enter_245 (by decide) ?_
            refine xj_icmp_ne (tgt := 260) E d_X10_enter_246 (by decide) (fun h246 => ?_) (fun h246 => ?_)
            · refine xj_aload_n E d_X10_enter_260 rfl ?_
              refine xj_geta E fl_X10_80 (by decide) rfl (by decide) rfl d_X10_enter_261 ?_
              refine xj_iload_n E d_X10_enter_264 rfl ?_
              refine xj_iald E (by decide) hik d_X10_enter_265 ?_
              refine xj_st (st' := [.inl (if (mBh μ (μ 61 0 k)) = 3 then g + 1 else g), .inl (nI k), .inr (62, 0)]) (by first | (rw [if_pos h246]; done) | (rw [if_neg h246, hck]; show ([.inl (mset μ 62 0 k g 62 0 k), .inl (nI k), .inr (62, 0)] : List XV) = _; rw [mset_at])) ?_
              refine xj_iast E (by decide) hik d_X10_enter_266 ?_
              refine xj_iconst (v := 1) E d_X10_enter_267 (by decide) ?_
              exact xj_zret E hr hlk (Or.inr rfl) d_X10_enter_268 (by first | exact Or.inr (Or.inr (Or.inr (Or.inr ⟨h50, h131, h165, fun z => h183 z.1, rfl, by rw [hck]⟩))) | exact Or.inr (Or.inr (Or.inr (Or.inr ⟨h50, h131, h165, fun z => z.2 (le3r h188), rfl, by rw [hck]⟩))))
            refine xj_aload_n E d_X10_enter_249 rfl ?_
            refine xj_geta E fl_X10_80 (by decide) rfl (by decide) rfl d_X10_enter_250 ?_
            refine xj_iload_n E d_X10_enter_253 rfl ?_
            refine xj_iald E (by decide) hik d_X10_enter_254 ?_
            refine xj_st (st' := [.inl g, .inl (nI k), .inr (62, 0)]) (by rw [hck]; show ([.inl (mset μ 62 0 k g 62 0 k), .inl (nI k), .inr (62, 0)] : List XV) = _; rw [mset_at]) ?_
            refine xj_iconst (v := 1) E d_X10_enter_255 (by decide) ?_
            refine xj_iadd E d_X10_enter_256 ?_
            refine xj_goto (tgt := 266) E d_X10_enter_257 (by decide) ?_
            refine xj_st (st' := [.inl (if (mBh μ (μ 61 0 k)) = 3 then g + 1 else g), .inl (nI k), .inr (62, 0)]) (by first | (rw [if_pos h246]; done) | (rw [if_neg h246, hck]; show ([.inl (mset μ 62 0 k g 62 0 k), .inl (nI k), .inr (62, 0)] : List XV) = _; rw [mset_at])) ?_
            refine xj_iast E (by decide) hik d_X10_enter_266 ?_
            refine xj_iconst (v := 1) E d_X10_enter_267 (by decide) ?_
            exact xj_zret E hr hlk (Or.inr rfl) d_X10_enter_268 (by first | exact Or.inr (Or.inr (Or.inr (Or.inr ⟨h50, h131, h165, fun z => h183 z.1, rfl, by rw [hck]⟩))) | exact Or.inr (Or.inr (Or.inr (Or.inr ⟨h50, h131, h165, fun z => z.2 (le3r h188), rfl, by rw [hck]⟩))))
          refine xj_iload E d_X10_enter_215 rfl ?_
          refine xj_bipush (v := 16) E d_X10_enter_217 (by decide) ?_
          refine xj_icmp_ge (tgt := 231) E d_X10_enter_219 (by decide) (fun h219 => ?_) (fun h219 => ?_)
          · refine xj_aload_n E d_X10_enter_231 rfl ?_
            refine xj_geti E fl_X10_181 (by decide) rfl (by decide) rfl d_X10_enter_232 ?_
            refine xj_st (st' := [.inl (if (mBh μ (μ 61 0 k)) = 3 ∧ (μ 61 0 k) < 16 then μ 24 0 39 + 1 else μ 24 0 39), .inr (24, 0)]) (by first | (rw [if_pos ⟨h212, Int32.not_le.mp h219⟩]; rfl) | (rw [if_neg (fun z => Int32.not_lt.mpr h219 z.2)]; rfl) | (rw [if_neg (fun z => h212 z.1)]; rfl)) ?_
            refine xj_put E fp_X10_181 (by decide) rfl (by decide) rfl (narrow_i _) d_X10_enter_235 ?_
            refine xj_aload_n E d_X10_enter_238 rfl ?_
            refine xj_geta E fl_X10_80 (by decide) rfl (by decide) rfl d_X10_enter_239 ?_
            refine xj_iload_n E d_X10_enter_242 rfl ?_
            refine xj_iload E d_X10_enter_243 rfl ?_
            refine xj_iconst (v := 3) E d_X10_enter_245 (by decide) ?_
            refine xj_icmp_ne (tgt := 260) E d_X10_enter_246 (by decide) (fun h246 => ?_) (fun h246 => ?_)
            · refine xj_aload_n E d_X10_enter_260 rfl ?_
              refine xj_geta E fl_X10_80 (by decide) rfl (by decide) rfl d_X10_enter_261 ?_
              refine xj_iload_n E d_X10_enter_264 rfl ?_
              refine xj_iald E (by decide) hik d_X10_enter_265 ?_
              refine xj_st (st' := [.inl (if (mBh μ (μ 61 0 k)) = 3 then g + 1 else g), .inl (nI k), .inr (62, 0)]) (by first | (rw [if_pos h246]; done) | (rw [if_neg h246, hck]; show ([.inl (mset μ 62 0 k g 62 0 k), .inl (nI k), .inr (62, 0)] : List XV) = _; rw [mset_at])) ?_
              refine xj_iast E (by decide) hik d_X10_enter_266 ?_
              refine xj_iconst (v := 1) E d_X10_enter_267 (by decide) ?_
              exact xj_zret E hr hlk (Or.inr rfl) d_X10_enter_268 (by first | exact Or.inr (Or.inr (Or.inr (Or.inr ⟨h50, h131, h165, fun z => h183 z.1, rfl, by rw [hck]⟩))) | exact Or.inr (Or.inr (Or.inr (Or.inr ⟨h50, h131, h165, fun z => z.2 (le3r h188), rfl, by rw [hck]⟩))))
            refine xj_aload_n E d_X10_enter_249 rfl ?_
            refine xj_geta E fl_X10_80 (by decide) rfl (by decide) rfl d_X10_enter_250 ?_
            refine xj_iload_n E d_X10_enter_253 rfl ?_
            refine xj_iald E (by decide) hik d_X10_enter_254 ?_
            refine xj_st (st' := [.inl g, .inl (nI k), .inr (62, 0)]) (by rw [hck]; show ([.inl (mset μ 62 0 k g 62 0 k), .inl (nI k), .inr (62, 0)] : List XV) = _; rw [mset_at]) ?_
            refine xj_iconst (v := 1) E d_X10_enter_255 (by decide) ?_
            refine xj_iadd E d_X10_enter_256 ?_
            refine xj_goto (tgt := 266) E d_X10_enter_257 (by decide) ?_
            refine xj_st (st' := [.inl (if (mBh μ (μ 61 0 k)) = 3 then g + 1 else g), .inl (nI k), .inr (62, 0)]) (by first | (rw [if_pos h246]; done) | (rw [if_neg h246, hck]; show ([.inl (mset μ 62 0 k g 62 0 k), .inl (nI k), .inr (62, 0)] : List XV) = _; rw [mset_at])) ?_
            refine xj_iast E (by decide) hik d_X10_enter_266 ?_
            refine xj_iconst (v := 1) E d_X10_enter_267 (by decide) ?_
            exact xj_zret E hr hlk (Or.inr rfl) d_X10_enter_268 (by first | exact Or.inr (Or.inr (Or.inr (Or.inr ⟨h50, h131, h165, fun z => h183 z.1, rfl, by rw [hck]⟩))) | exact Or.inr (Or.inr (Or.inr (Or.inr ⟨h50, h131, h165, fun z => z.2 (le3r h188), rfl, by rw [hck]⟩))))
          refine xj_aload_n E d_X10_enter_222 rfl ?_
          refine xj_geti E fl_X10_181 (by decide) rfl (by decide) rfl d_X10_enter_223 ?_
          refine xj_iconst (v := 1) E d_X10_enter_226 (by decide) ?_
          refine xj_iadd E d_X10_enter_227 ?_
          refine xj_goto (tgt := 235) E d_X10_enter_228 (by decide) ?_
          refine xj_st (st' := [.inl (if (mBh μ (μ 61 0 k)) = 3 ∧ (μ 61 0 k) < 16 then μ 24 0 39 + 1 else μ 24 0 39), .inr (24, 0)]) (by first | (rw [if_pos ⟨h212, Int32.not_le.mp h219⟩]; rfl) | (rw [if_neg (fun z => Int32.not_lt.mpr h219 z.2)]; rfl) | (rw [if_neg (fun z => h212 z.1)]; rfl)) ?_
          refine xj_put E fp_X10_181 (by decide) rfl (by decide) rfl (narrow_i _) d_X10_enter_235 ?_
          refine xj_aload_n E d_X10_enter_238 rfl ?_
          refine xj_geta E fl_X10_80 (by decide) rfl (by decide) rfl d_X10_enter_239 ?_
          refine xj_iload_n E d_X10_enter_242 rfl ?_
          refine xj_iload E d_X10_enter_243 rfl ?_
          refine xj_iconst (v := 3) E d_X10_enter_245 (by decide) ?_
          refine xj_icmp_ne (tgt := 260) E d_X10_enter_246 (by decide) (fun h246 => ?_) (fun h246 => ?_)
          · refine xj_aload_n E d_X10_enter_260 rfl ?_
            refine xj_geta E fl_X10_80 (by decide) rfl (by decide) rfl d_X10_enter_261 ?_
            refine xj_iload_n E d_X10_enter_264 rfl ?_
            refine xj_iald E (by decide) hik d_X10_enter_265 ?_
            refine xj_st (st' := [.inl (if (mBh μ (μ 61 0 k)) = 3 then g + 1 else g), .inl (nI k), .inr (62, 0)]) (by first | (rw [if_pos h246]; done) | (rw [if_neg h246, hck]; show ([.inl (mset μ 62 0 k g 62 0 k), .inl (nI k), .inr (62, 0)] : List XV) = _; rw [mset_at])) ?_
            refine xj_iast E (by decide) hik d_X10_enter_266 ?_
            refine xj_iconst (v := 1) E d_X10_enter_267 (by decide) ?_
            exact xj_zret E hr hlk (Or.inr rfl) d_X10_enter_268 (by first | exact Or.inr (Or.inr (Or.inr (Or.inr ⟨h50, h131, h165, fun z => h183 z.1, rfl, by rw [hck]⟩))) | exact Or.inr (Or.inr (Or.inr (Or.inr ⟨h50, h131, h165, fun z => z.2 (le3r h188), rfl, by rw [hck]⟩))))
          refine xj_aload_n E d_X10_enter_249 rfl ?_
          refine xj_geta E fl_X10_80 (by decide) rfl (by decide) rfl d_X10_enter_250 ?_
          refine xj_iload_n E d_X10_enter_253 rfl ?_
          refine xj_iald E (by decide) hik d_X10_enter_254 ?_
          refine xj_st (st' := [.inl g, .inl (nI k), .inr (62, 0)]) (by rw [hck]; show ([.inl (mset μ 62 0 k g 62 0 k), .inl (nI k), .inr (62, 0)] : List XV) = _; rw [mset_at]) ?_
          refine xj_iconst (v := 1) E d_X10_enter_255 (by decide) ?_
          refine xj_iadd E d_X10_enter_256 ?_
          refine xj_goto (tgt := 266) E d_X10_enter_257 (by decide) ?_
          refine xj_st (st' := [.inl (if (mBh μ (μ 61 0 k)) = 3 then g + 1 else g), .inl (nI k), .inr (62, 0)]) (by first | (rw [if_pos h246]; done) | (rw [if_neg h246, hck]; show ([.inl (mset μ 62 0 k g 62 0 k), .inl (nI k), .inr (62, 0)] : List XV) = _; rw [mset_at])) ?_
          refine xj_iast E (by decide) hik d_X10_enter_266 ?_
          refine xj_iconst (v := 1) E d_X10_enter_267 (by decide) ?_
          exact xj_zret E hr hlk (Or.inr rfl) d_X10_enter_268 (by first | exact Or.inr (Or.inr (Or.inr (Or.inr ⟨h50, h131, h165, fun z => h183 z.1, rfl, by rw [hck]⟩))) | exact Or.inr (Or.inr (Or.inr (Or.inr ⟨h50, h131, h165, fun z => z.2 (le3r h188), rfl, by rw [hck]⟩))))
        refine xj_iload_n E d_X10_enter_186 rfl ?_
        refine xj_iconst (v := 3) E d_X10_enter_187 (by decide) ?_
        refine xj_icmp_le (tgt := 201) E d_X10_enter_188 (by decide) (fun h188 => ?_) (fun h188 => ?_)
        · refine xj_aload_n E d_X10_enter_201 rfl ?_
          refine xj_geta E fl_X10_83 (by decide) rfl (by decide) rfl d_X10_enter_202 ?_
          refine xj_iload_n E d_X10_enter_205 rfl ?_
          refine xj_iconst (v := 1) E d_X10_enter_206 (by decide) ?_
          refine xj_iast E (by decide) hik d_X10_enter_207 ?_
          refine xj_mem (μ' := mset (mset μ 62 0 k g) 63 0 k 1) (by rw [hck]) ?_
          refine xj_aload_n E d_X10_enter_208 rfl ?_
          refine xj_iload E d_X10_enter_209 rfl ?_
          refine xj_iconst (v := 3) E d_X10_enter_211 (by decide) ?_
          refine xj_icmp_ne (tgt := 231) E d_X10_enter_212 (by decide) (fun h212 => ?_) (fun h212 => ?_)
          · refine xj_aload_n E d_X10_enter_231 rfl ?_
            refine xj_geti E fl_X10_181 (by decide) rfl (by decide) rfl d_X10_enter_232 ?_
            refine xj_st (st' := [.inl (if (mBh μ (μ 61 0 k)) = 3 ∧ (μ 61 0 k) < 16 then μ 24 0 39 + 1 else μ 24 0 39), .inr (24, 0)]) (by first | (rw [if_pos ⟨h212, Int32.not_le.mp h219⟩]; rfl) | (rw [if_neg (fun z => Int32.not_lt.mpr h219 z.2)]; rfl) | (rw [if_neg (fun z => h212 z.1)]; rfl)) ?_
            refine xj_put E fp_X10_181 (by decide) rfl (by decide) rfl (narrow_i _) d_X10_enter_235 ?_
            refine xj_aload_n E d_X10_enter_238 rfl ?_
            refine xj_geta E fl_X10_80 (by decide) rfl (by decide) rfl d_X10_enter_239 ?_
            refine xj_iload_n E d_X10_enter_242 rfl ?_
            refine xj_iload E d_X10_enter_243 rfl ?_
            refine xj_iconst (v := 3) E d_X10_enter_245 (by decide) ?_
            refine xj_icmp_ne (tgt := 260) E d_X10_enter_246 (by decide) (fun h246 => ?_) (fun h246 => ?_)
            · refine xj_aload_n E d_X10_enter_260 rfl ?_
              refine xj_geta E fl_X10_80 (by decide) rfl (by decide) rfl d_X10_enter_261 ?_
              refine xj_iload_n E d_X10_enter_264 rfl ?_
              refine xj_iald E (by decide) hik d_X10_enter_265 ?_
              refine xj_st (st' := [.inl (if (mBh μ (μ 61 0 k)) = 3 then g + 1 else g), .inl (nI k), .inr (62, 0)]) (by first | (rw [if_pos h246]; done) | (rw [if_neg h246, hck]; show ([.inl (mset μ 62 0 k g 62 0 k), .inl (nI k), .inr (62, 0)] : List XV) = _; rw [mset_at])) ?_
              refine xj_iast E (by decide) hik d_X10_enter_266 ?_
              refine xj_iconst (v := 1) E d_X10_enter_267 (by decide) ?_
              exact xj_zret E hr hlk (Or.inr rfl) d_X10_enter_268 (by first | exact Or.inr (Or.inr (Or.inr (Or.inr ⟨h50, h131, h165, fun z => h183 z.1, rfl, by rw [hck]⟩))) | exact Or.inr (Or.inr (Or.inr (Or.inr ⟨h50, h131, h165, fun z => z.2 (le3r h188), rfl, by rw [hck]⟩))))
            refine xj_aload_n E d_X10_enter_249 rfl ?_
            refine xj_geta E fl_X10_80 (by decide) rfl (by decide) rfl d_X10_enter_250 ?_
            refine xj_iload_n E d_X10_enter_253 rfl ?_
            refine xj_iald E (by decide) hik d_X10_enter_254 ?_
            refine xj_st (st' := [.inl g, .inl (nI k), .inr (62, 0)]) (by rw [hck]; show ([.inl (mset μ 62 0 k g 62 0 k), .inl (nI k), .inr (62, 0)] : List XV) = _; rw [mset_at]) ?_
            refine xj_iconst (v := 1) E d_X10_enter_255 (by decide) ?_
            refine xj_iadd E d_X10_enter_256 ?_
            refine xj_goto (tgt := 266) E d_X10_enter_257 (by decide) ?_
            refine xj_st (st' := [.inl (if (mBh μ (μ 61 0 k)) = 3 then g + 1 else g), .inl (nI k), .inr (62, 0)]) (by first | (rw [if_pos h246]; done) | (rw [if_neg h246, hck]; show ([.inl (mset μ 62 0 k g 62 0 k), .inl (nI k), .inr (62, 0)] : List XV) = _; rw [mset_at])) ?_
            refine xj_iast E (by decide) hik d_X10_enter_266 ?_
            refine xj_iconst (v := 1) E d_X10_enter_267 (by decide) ?_
            exact xj_zret E hr hlk (Or.inr rfl) d_X10_enter_268 (by first | exact Or.inr (Or.inr (Or.inr (Or.inr ⟨h50, h131, h165, fun z => h183 z.1, rfl, by rw [hck]⟩))) | exact Or.inr (Or.inr (Or.inr (Or.inr ⟨h50, h131, h165, fun z => z.2 (le3r h188), rfl, by rw [hck]⟩))))
          refine xj_iload E d_X10_enter_215 rfl ?_
          refine xj_bipush (v := 16) E d_X10_enter_217 (by decide) ?_
          refine xj_icmp_ge (tgt := 231) E d_X10_enter_219 (by decide) (fun h219 => ?_) (fun h219 => ?_)
          · refine xj_aload_n E d_X10_enter_231 rfl ?_
            refine xj_geti E fl_X10_181 (by decide) rfl (by decide) rfl d_X10_enter_232 ?_
            refine xj_st (st' := [.inl (if (mBh μ (μ 61 0 k)) = 3 ∧ (μ 61 0 k) < 16 then μ 24 0 39 + 1 else μ 24 0 39), .inr (24, 0)]) (by first | (rw [if_pos ⟨h212, Int32.not_le.mp h219⟩]; rfl) | (rw [if_neg (fun z => Int32.not_lt.mpr h219 z.2)]; rfl) | (rw [if_neg (fun z => h212 z.1)]; rfl)) ?_
            refine xj_put E fp_X10_181 (by decide) rfl (by decide) rfl (narrow_i _) d_X10_enter_235 ?_
            refine xj_aload_n E d_X10_enter_238 rfl ?_
            refine xj_geta E fl_X10_80 (by decide) rfl (by decide) rfl d_X10_enter_239 ?_
            refine xj_iload_n E d_X10_enter_242 rfl ?_
            refine xj_iload E d_X10_enter_243 rfl ?_
            refine xj_iconst (v := 3) E d_X10_enter_245 (by decide) ?_
            refine xj_icmp_ne (tgt := 260) E d_X10_enter_246 (by decide) (fun h246 => ?_) (fun h246 => ?_)
            · refine xj_aload_n E d_X10_enter_260 rfl ?_
              refine xj_geta E fl_X10_80 (by decide) rfl (by decide) rfl d_X10_enter_261 ?_
              refine xj_iload_n E d_X10_enter_264 rfl ?_
              refine xj_iald E (by decide) hik d_X10_enter_265 ?_
              refine xj_st (st' := [.inl (if (mBh μ (μ 61 0 k)) = 3 then g + 1 else g), .inl (nI k), .inr (62, 0)]) (by first | (rw [if_pos h246]; done) | (rw [if_neg h246, hck]; show ([.inl (mset μ 62 0 k g 62 0 k), .inl (nI k), .inr (62, 0)] : List XV) = _; rw [mset_at])) ?_
              refine xj_iast E (by decide) hik d_X10_enter_266 ?_
              refine xj_iconst (v := 1) E d_X10_enter_267 (by decide) ?_
              exact xj_zret E hr hlk (Or.inr rfl) d_X10_enter_268 (by first | exact Or.inr (Or.inr (Or.inr (Or.inr ⟨h50, h131, h165, fun z => h183 z.1, rfl, by rw [hck]⟩))) | exact Or.inr (Or.inr (Or.inr (Or.inr ⟨h50, h131, h165, fun z => z.2 (le3r h188), rfl, by rw [hck]⟩))))
            refine xj_aload_n E d_X10_enter_249 rfl ?_
            refine xj_geta E fl_X10_80 (by decide) rfl (by decide) rfl d_X10_enter_250 ?_
            refine xj_iload_n E d_X10_enter_253 rfl ?_
            refine xj_iald E (by decide) hik d_X10_enter_254 ?_
            refine xj_st (st' := [.inl g, .inl (nI k), .inr (62, 0)]) (by rw [hck]; show ([.inl (mset μ 62 0 k g 62 0 k), .inl (nI k), .inr (62, 0)] : List XV) = _; rw [mset_at]) ?_
            refine xj_iconst (v := 1) E d_X10_enter_255 (by decide) ?_
            refine xj_iadd E d_X10_enter_256 ?_
            refine xj_goto (tgt := 266) E d_X10_enter_257 (by decide) ?_
            refine xj_st (st' := [.inl (if (mBh μ (μ 61 0 k)) = 3 then g + 1 else g), .inl (nI k), .inr (62, 0)]) (by first | (rw [if_pos h246]; done) | (rw [if_neg h246, hck]; show ([.inl (mset μ 62 0 k g 62 0 k), .inl (nI k), .inr (62, 0)] : List XV) = _; rw [mset_at])) ?_
            refine xj_iast E (by decide) hik d_X10_enter_266 ?_
            refine xj_iconst (v := 1) E d_X10_enter_267 (by decide) ?_
            exact xj_zret E hr hlk (Or.inr rfl) d_X10_enter_268 (by first | exact Or.inr (Or.inr (Or.inr (Or.inr ⟨h50, h131, h165, fun z => h183 z.1, rfl, by rw [hck]⟩))) | exact Or.inr (Or.inr (Or.inr (Or.inr ⟨h50, h131, h165, fun z => z.2 (le3r h188), rfl, by rw [hck]⟩))))
          refine xj_aload_n E d_X10_enter_222 rfl ?_
          refine xj_geti E fl_X10_181 (by decide) rfl (by decide) rfl d_X10_enter_223 ?_
          refine xj_iconst (v := 1) E d_X10_enter_226 (by decide) ?_
          refine xj_iadd E d_X10_enter_227 ?_
          refine xj_goto (tgt := 235) E d_X10_enter_228 (by decide) ?_
          refine xj_st (st' := [.inl (if (mBh μ (μ 61 0 k)) = 3 ∧ (μ 61 0 k) < 16 then μ 24 0 39 + 1 else μ 24 0 39), .inr (24, 0)]) (by first | (rw [if_pos ⟨h212, Int32.not_le.mp h219⟩]; rfl) | (rw [if_neg (fun z => Int32.not_lt.mpr h219 z.2)]; rfl) | (rw [if_neg (fun z => h212 z.1)]; rfl)) ?_
          refine xj_put E fp_X10_181 (by decide) rfl (by decide) rfl (narrow_i _) d_X10_enter_235 ?_
          refine xj_aload_n E d_X10_enter_238 rfl ?_
          refine xj_geta E fl_X10_80 (by decide) rfl (by decide) rfl d_X10_enter_239 ?_
          refine xj_iload_n E d_X10_enter_242 rfl ?_
          refine xj_iload E d_X10_enter_243 rfl ?_
          refine xj_iconst (v := 3) E d_X10_enter_245 (by decide) ?_
          refine xj_icmp_ne (tgt := 260) E d_X10_enter_246 (by decide) (fun h246 => ?_) (fun h246 => ?_)
          · refine xj_aload_n E d_X10_enter_260 rfl ?_
            refine xj_geta E fl_X10_80 (by decide) rfl (by decide) rfl d_X10_enter_261 ?_
            refine xj_iload_n E d_X10_enter_264 rfl ?_
            refine xj_iald E (by decide) hik d_X10_enter_265 ?_
            refine xj_st (st' := [.inl (if (mBh μ (μ 61 0 k)) = 3 then g + 1 else g), .inl (nI k), .inr (62, 0)]) (by first | (rw [if_pos h246]; done) | (rw [if_neg h246, hck]; show ([.inl (mset μ 62 0 k g 62 0 k), .inl (nI k), .inr (62, 0)] : List XV) = _; rw [mset_at])) ?_
            refine xj_iast E (by decide) hik d_X10_enter_266 ?_
            refine xj_iconst (v := 1) E d_X10_enter_267 (by decide) ?_
            exact xj_zret E hr hlk (Or.inr rfl) d_X10_enter_268 (by first | exact Or.inr (Or.inr (Or.inr (Or.inr ⟨h50, h131, h165, fun z => h183 z.1, rfl, by rw [hck]⟩))) | exact Or.inr (Or.inr (Or.inr (Or.inr ⟨h50, h131, h165, fun z => z.2 (le3r h188), rfl, by rw [hck]⟩))))
          refine xj_aload_n E d_X10_enter_249 rfl ?_
          refine xj_geta E fl_X10_80 (by decide) rfl (by decide) rfl d_X10_enter_250 ?_
          refine xj_iload_n E d_X10_enter_253 rfl ?_
          refine xj_iald E (by decide) hik d_X10_enter_254 ?_
          refine xj_st (st' := [.inl g, .inl (nI k), .inr (62, 0)]) (by rw [hck]; show ([.inl (mset μ 62 0 k g 62 0 k), .inl (nI k), .inr (62, 0)] : List XV) = _; rw [mset_at]) ?_
          refine xj_iconst (v := 1) E d_X10_enter_255 (by decide) ?_
          refine xj_iadd E d_X10_enter_256 ?_
          refine xj_goto (tgt := 266) E d_X10_enter_257 (by decide) ?_
          refine xj_st (st' := [.inl (if (mBh μ (μ 61 0 k)) = 3 then g + 1 else g), .inl (nI k), .inr (62, 0)]) (by first | (rw [if_pos h246]; done) | (rw [if_neg h246, hck]; show ([.inl (mset μ 62 0 k g 62 0 k), .inl (nI k), .inr (62, 0)] : List XV) = _; rw [mset_at])) ?_
          refine xj_iast E (by decide) hik d_X10_enter_266 ?_
          refine xj_iconst (v := 1) E d_X10_enter_267 (by decide) ?_
          exact xj_zret E hr hlk (Or.inr rfl) d_X10_enter_268 (by first | exact Or.inr (Or.inr (Or.inr (Or.inr ⟨h50, h131, h165, fun z => h183 z.1, rfl, by rw [hck]⟩))) | exact Or.inr (Or.inr (Or.inr (Or.inr ⟨h50, h131, h165, fun z => z.2 (le3r h188), rfl, by rw [hck]⟩))))
        refine xj_aload_n E d_X10_enter_191 rfl ?_
        refine xj_iconst (v := 1) E d_X10_enter_192 (by decide) ?_
        refine xj_bipush (v := 50) E d_X10_enter_193 (by decide) ?_
        refine xj_callV E (k_X10_answer l G hI 1 50 _ (Or.inr rfl)) cw_X10_184 cv_X10_answer (by decide) rfl rfl rfl ⟨by decide, by decide⟩ (Nat.le_of_ble_eq_true rfl) d_X10_enter_195 ⟨Nat.zero_le _, Nat.zero_le _⟩ (fun r195 μ195 ho195 hp195 => ?_)
        obtain ⟨rfl, hm195⟩ := hp195
        refine xj_mem hm195 ?_
        refine xj_goto (tgt := 269) E d_X10_enter_198 (by decide) ?_
        refine xj_iconst (v := 0) E d_X10_enter_269 (by decide) ?_
        exact xj_zret E hr hlk (Or.inl rfl) d_X10_enter_270 (by first | exact Or.inr (Or.inl ⟨h50, h131, rfl, rfl⟩) | exact Or.inr (Or.inr (Or.inl ⟨h50, h165, rfl, rfl⟩)) | exact Or.inr (Or.inr (Or.inr (Or.inl ⟨h50, h183, fun z => h188 (le3q z), rfl, rfl⟩))))
      refine xj_aload_n E d_X10_enter_168 rfl ?_
      refine xj_iconst (v := 1) E d_X10_enter_169 (by decide) ?_
      refine xj_iconst (v := 1) E d_X10_enter_170 (by decide) ?_
      refine xj_iload E d_X10_enter_171 rfl ?_
      refine xj_iadd E d_X10_enter_173 ?_
      refine xj_callV E (k_X10_answer l G hI 1 _ _ (Or.inr rfl)) cw_X10_184 cv_X10_answer (by decide) rfl rfl rfl ⟨by decide, by decide⟩ (Nat.le_of_ble_eq_true rfl) d_X10_enter_174 ⟨Nat.zero_le _, Nat.zero_le _⟩ (fun r174 μ174 ho174 hp174 => ?_)
      obtain ⟨rfl, hm174⟩ := hp174
      refine xj_mem hm174 ?_
      refine xj_goto (tgt := 269) E d_X10_enter_177 (by decide) ?_
      refine xj_iconst (v := 0) E d_X10_enter_269 (by decide) ?_
      exact xj_zret E hr hlk (Or.inl rfl) d_X10_enter_270 (by first | exact Or.inr (Or.inl ⟨h50, h131, rfl, rfl⟩) | exact Or.inr (Or.inr (Or.inl ⟨h50, h165, rfl, rfl⟩)) | exact Or.inr (Or.inr (Or.inr (Or.inl ⟨h50, h183, fun z => h188 (le3q z), rfl, rfl⟩))))
    refine xj_aload_n E d_X10_enter_134 rfl ?_
    refine xj_iconst (v := 0) E d_X10_enter_135 (by decide) ?_
    refine xj_iload E d_X10_enter_136 rfl ?_
    refine xj_bipush (v := 16) E d_X10_enter_138 (by decide) ?_
    refine xj_icmp_ge (tgt := 150) E d_X10_enter_140 (by decide) (fun h140 => ?_) (fun h140 => ?_)
    · refine xj_aload_n E d_X10_enter_150 rfl ?_
      refine xj_geta E fl_X10_80 (by decide) rfl (by decide) rfl d_X10_enter_151 ?_
      refine xj_iload_n E d_X10_enter_154 rfl ?_
      refine xj_iald E (by decide) hik d_X10_enter_155 ?_
      refine xj_st (st' := [.inl (if μ 61 0 k < 16 then μ 24 0 39 else g), .inl 0, .inr (24, 0)]) (by first | (rw [if_pos (Int32.not_le.mp h140)]; rfl) | (rw [if_neg (Int32.not_lt.mpr h140), hck]; show ([.inl (mset μ 62 0 k g 62 0 k), .inl 0, .inr (24, 0)] : List XV) = _; rw [mset_at])) ?_
      refine xj_callV E (k_X10_answer l G hI 0 _ _ (Or.inl rfl)) cw_X10_184 cv_X10_answer (by decide) rfl rfl rfl ⟨by decide, by decide⟩ (Nat.le_of_ble_eq_true rfl) d_X10_enter_156 ⟨Nat.zero_le _, Nat.zero_le _⟩ (fun r156 μ156 ho156 hp156 => ?_)
      obtain ⟨rfl, hm156⟩ := hp156
      refine xj_mem hm156 ?_
      refine xj_goto (tgt := 269) E d_X10_enter_159 (by decide) ?_
      refine xj_iconst (v := 0) E d_X10_enter_269 (by decide) ?_
      exact xj_zret E hr hlk (Or.inl rfl) d_X10_enter_270 (by first | exact Or.inr (Or.inl ⟨h50, h131, rfl, rfl⟩) | exact Or.inr (Or.inr (Or.inl ⟨h50, h165, rfl, rfl⟩)) | exact Or.inr (Or.inr (Or.inr (Or.inl ⟨h50, h183, fun z => h188 (le3q z), rfl, rfl⟩))))
    refine xj_aload_n E d_X10_enter_143 rfl ?_
    refine xj_geti E fl_X10_181 (by decide) rfl (by decide) rfl d_X10_enter_144 ?_
    refine xj_goto (tgt := 156) E d_X10_enter_147 (by decide) ?_
    refine xj_st (st' := [.inl (if μ 61 0 k < 16 then μ 24 0 39 else g), .inl 0, .inr (24, 0)]) (by first | (rw [if_pos (Int32.not_le.mp h140)]; rfl) | (rw [if_neg (Int32.not_lt.mpr h140), hck]; show ([.inl (mset μ 62 0 k g 62 0 k), .inl 0, .inr (24, 0)] : List XV) = _; rw [mset_at])) ?_
    refine xj_callV E (k_X10_answer l G hI 0 _ _ (Or.inl rfl)) cw_X10_184 cv_X10_answer (by decide) rfl rfl rfl ⟨by decide, by decide⟩ (Nat.le_of_ble_eq_true rfl) d_X10_enter_156 ⟨Nat.zero_le _, Nat.zero_le _⟩ (fun r156 μ156 ho156 hp156 => ?_)
    obtain ⟨rfl, hm156⟩ := hp156
    refine xj_mem hm156 ?_
    refine xj_goto (tgt := 269) E d_X10_enter_159 (by decide) ?_
    refine xj_iconst (v := 0) E d_X10_enter_269 (by decide) ?_
    exact xj_zret E hr hlk (Or.inl rfl) d_X10_enter_270 (by first | exact Or.inr (Or.inl ⟨h50, h131, rfl, rfl⟩) | exact Or.inr (Or.inr (Or.inl ⟨h50, h165, rfl, rfl⟩)) | exact Or.inr (Or.inr (Or.inr (Or.inl ⟨h50, h183, fun z => h188 (le3q z), rfl, rfl⟩))))
  have s46 : XJ G (xA G) 6 p l e (xr 1) s m args below meth c 0 0 (MQ below (xQ G (fun r μ' => ((μ 61 0 k) = 32 ∧ r = some (.inl 0) ∧ μ' = mAns (mset μ 62 0 k g) (mFz μ j q) (if mFz μ j q = 0 then (if nI q < 4 then 3 * g + nI q else 7) else 33 + nI q)) ∨ (¬ (μ 61 0 k) = 32 ∧ (mBh μ (μ 61 0 k)) = 2 ∧ r = some (.inl 0) ∧ μ' = mAns (mset μ 62 0 k g) 0 (if (μ 61 0 k) < 16 then μ 24 0 39 else g)) ∨ (¬ (μ 61 0 k) = 32 ∧ (mBh μ (μ 61 0 k)) = 4 ∧ r = some (.inl 0) ∧ μ' = mAns (mset μ 62 0 k g) 1 (1 + (μ 61 0 k))) ∨ (¬ (μ 61 0 k) = 32 ∧ (mBh μ (μ 61 0 k)) = 3 ∧ ¬ nI q < 4 ∧ r = some (.inl 0) ∧ μ' = mAns (mset μ 62 0 k g) 1 50) ∨ (¬ (μ 61 0 k) = 32 ∧ ¬ (mBh μ (μ 61 0 k)) = 2 ∧ ¬ (mBh μ (μ 61 0 k)) = 4 ∧ ¬ ((mBh μ (μ 61 0 k)) = 3 ∧ ¬ nI q < 4) ∧ r = some (.inl 1) ∧ μ' = mset (mset (mset (mset μ 62 0 k g) 63 0 k 1) 24 0 39 (if (mBh μ (μ 61 0 k)) = 3 ∧ (μ 61 0 k) < 16 then μ 24 0 39 + 1 else μ 24 0 39)) 62 0 k (if (mBh μ (μ 61 0 k)) = 3 then g + 1 else g)))) args s 0 0 (xA G)) 46 [some (.inr (24, 0)), some (.inl (nI k)), some (.inl (nI j)), some (.inl (nI q)), some (.inl ((μ 61 0 k))), none] [] (mset μ 62 0 k g) := by
    refine xj_iload E d_X10_enter_46 rfl ?_
    refine xj_bipush (v := 32) E d_X10_enter_48 (by decide) ?_
    refine xj_icmp_ne (tgt := 120) E d_X10_enter_50 (by decide) (fun h50 => ?_) (fun h50 => ?_)
    · exact s120 h50
    refine xj_iload_n E d_X10_enter_53 rfl ?_
    refine xj_iconst (v := 4) E d_X10_enter_54 (by decide) ?_
    refine xj_icmp_ge (tgt := 77) E d_X10_enter_55 (by decide) (fun h55 => ?_) (fun h55 => ?_)
    · refine xj_iconst (v := 0) E d_X10_enter_77 (by decide) ?_
      refine xj_istore E d_X10_enter_78 (by decide) rfl ?_
      first
        | (refine xj_loc (L' := [some (.inr (24, 0)), some (.inl (nI k)), some (.inl (nI j)), some (.inl (nI q)), some (.inl ((μ 61 0 k))), some (.inl (mFz μ j q))]) (by unfold mFz; rw [if_pos ⟨hq4, fun z => h70 (by rw [cl_nI (by omega)]; exact z)⟩]; rfl) ?_
           exact s80 h50)
        | (refine xj_loc (L' := [some (.inr (24, 0)), some (.inl (nI k)), some (.inl (nI j)), some (.inl (nI q)), some (.inl ((μ 61 0 k))), some (.inl (mFz μ j q))]) (by unfold mFz; rw [if_neg (fun z => z.2 (by rw [cl_nI (by omega)] at h70; exact h70))]; rfl) ?_
           exact s80 h50)
        | (refine xj_loc (L' := [some (.inr (24, 0)), some (.inl (nI k)), some (.inl (nI j)), some (.inl (nI q)), some (.inl ((μ 61 0 k))), some (.inl (mFz μ j q))]) (by unfold mFz; rw [if_neg (fun z => nI_ge (b := 4) z.1 (by omega) h55)]; rfl) ?_
           exact s80 h50)
    have hq4 : q < 4 := ng_nI (a := 4) h55 (by omega) (by omega)
    refine xj_aload_n E d_X10_enter_58 rfl ?_
    refine xj_geta E fl_X10_47 (by decide) rfl (by decide) rfl d_X10_enter_59 ?_
    refine xj_iconst (v := 4) E d_X10_enter_62 (by decide) ?_
    refine xj_iload_n E d_X10_enter_63 rfl ?_
    refine xj_imul E d_X10_enter_64 ?_
    refine xj_iload_n E d_X10_enter_65 rfl ?_
    refine xj_iadd E d_X10_enter_66 ?_
    refine xj_st (st' := [.inl (nI (4 * j + q)), .inr (48, 0)]) (by rw [← ix4]) ?_
    refine xj_iald E (by decide) (show vp_in (nI (4 * j + q)) 16 from in_nI (by omega) (by omega)) d_X10_enter_67 ?_
    refine xj_iconst (v := 4) E d_X10_enter_68 (by decide) ?_
    refine xj_iand E d_X10_enter_69 ?_
    refine xj_if_eq (tgt := 77) E d_X10_enter_70 (by decide) (fun h70 => ?_) (fun h70 => ?_)
    · refine xj_iconst (v := 0) E d_X10_enter_77 (by decide) ?_
      refine xj_istore E d_X10_enter_78 (by decide) rfl ?_
      first
        | (refine xj_loc (L' := [some (.inr (24, 0)), some (.inl (nI k)), some (.inl (nI j)), some (.inl (nI q)), some (.inl ((μ 61 0 k))), some (.inl (mFz μ j q))]) (by unfold mFz; rw [if_pos ⟨hq4, fun z => h70 (by rw [cl_nI (by omega)]; exact z)⟩]; rfl) ?_
           exact s80 h50)
        | (refine xj_loc (L' := [some (.inr (24, 0)), some (.inl (nI k)), some (.inl (nI j)), some (.inl (nI q)), some (.inl ((μ 61 0 k))), some (.inl (mFz μ j q))]) (by unfold mFz; rw [if_neg (fun z => z.2 (by rw [cl_nI (by omega)] at h70; exact h70))]; rfl) ?_
           exact s80 h50)
        | (refine xj_loc (L' := [some (.inr (24, 0)), some (.inl (nI k)), some (.inl (nI j)), some (.inl (nI q)), some (.inl ((μ 61 0 k))), some (.inl (mFz μ j q))]) (by unfold mFz; rw [if_neg (fun z => nI_ge (b := 4) z.1 (by omega) h55)]; rfl) ?_
           exact s80 h50)
    refine xj_iconst (v := 1) E d_X10_enter_73 (by decide) ?_
    refine xj_goto (tgt := 78) E d_X10_enter_74 (by decide) ?_
    refine xj_istore E d_X10_enter_78 (by decide) rfl ?_
    first
      | (refine xj_loc (L' := [some (.inr (24, 0)), some (.inl (nI k)), some (.inl (nI j)), some (.inl (nI q)), some (.inl ((μ 61 0 k))), some (.inl (mFz μ j q))]) (by unfold mFz; rw [if_pos ⟨hq4, fun z => h70 (by rw [cl_nI (by omega)]; exact z)⟩]; rfl) ?_
         exact s80 h50)
      | (refine xj_loc (L' := [some (.inr (24, 0)), some (.inl (nI k)), some (.inl (nI j)), some (.inl (nI q)), some (.inl ((μ 61 0 k))), some (.inl (mFz μ j q))]) (by unfold mFz; rw [if_neg (fun z => z.2 (by rw [cl_nI (by omega)] at h70; exact h70))]; rfl) ?_
         exact s80 h50)
      | (refine xj_loc (L' := [some (.inr (24, 0)), some (.inl (nI k)), some (.inl (nI j)), some (.inl (nI q)), some (.inl ((μ 61 0 k))), some (.inl (mFz μ j q))]) (by unfold mFz; rw [if_neg (fun z => nI_ge (b := 4) z.1 (by omega) h55)]; rfl) ?_
         exact s80 h50)
  refine xj_aload_n E d_X10_enter_0 rfl ?_
  refine xj_geta E fl_X10_77 (by decide) rfl (by decide) rfl d_X10_enter_1 ?_
  refine xj_iload_n E d_X10_enter_4 rfl ?_
  refine xj_iald E (by decide) hik d_X10_enter_5 ?_
  refine xj_st (st' := [.inl (μ 61 0 k)]) (by rw [hck]) ?_
  refine xj_istore E d_X10_enter_6 (by decide) rfl ?_
  refine xj_aload_n E d_X10_enter_8 rfl ?_
  refine xj_geta E fl_X10_80 (by decide) rfl (by decide) rfl d_X10_enter_9 ?_
  refine xj_iload_n E d_X10_enter_12 rfl ?_
  refine xj_iload_n E d_X10_enter_13 rfl ?_
  refine xj_if_le (tgt := 41) E d_X10_enter_14 (by decide) (fun h14 => ?_) (fun h14 => ?_)
  · refine xj_aload_n E d_X10_enter_41 rfl ?_
    refine xj_geti E fl_X10_181 (by decide) rfl (by decide) rfl d_X10_enter_42 ?_
    refine xj_st (st' := [.inl g, .inl (nI k), .inr (62, 0)]) (by
      rw [← hg]
      first
        | (rw [if_pos ⟨hk0, by rw [hck1] at h27; exact Int32.not_lt.mp h27⟩, hck1])
        | (rw [if_neg (fun z => by rw [hck1] at h27; exact Int32.not_lt.mpr z.2 h27)])
        | (rw [if_neg (fun z => nI_nle z.1 (by omega) h14)])) ?_
    refine xj_iast E (by decide) hik d_X10_enter_45 ?_
    refine xj_mem (μ' := mset μ 62 0 k g) (by rw [hck]) ?_
    exact s46
  have hk0 : 0 < k := by
    apply Classical.byContradiction
    intro z
    have z0 : k = 0 := by omega
    subst z0
    exact h14 (by decide)
  have hik1 : vp_in (nI (k - 1)) 24 := in_nI (by omega) (by omega)
  have hck1 : (nI (k - 1)).toNatClampNeg = k - 1 := cl_nI (by omega)
  refine xj_aload_n E d_X10_enter_17 rfl ?_
  refine xj_geta E fl_X10_77 (by decide) rfl (by decide) rfl d_X10_enter_18 ?_
  refine xj_iload_n E d_X10_enter_21 rfl ?_
  refine xj_iconst (v := 1) E d_X10_enter_22 (by decide) ?_
  refine xj_isub E d_X10_enter_23 ?_
  refine xj_st (st' := [.inl (nI (k - 1)), .inr (61, 0), .inl (nI k), .inr (62, 0)]) (by rw [nI_s1 hk0]) ?_
  refine xj_iald E (by decide) hik1 d_X10_enter_24 ?_
  refine xj_bipush (v := 16) E d_X10_enter_25 (by decide) ?_
  refine xj_icmp_lt (tgt := 41) E d_X10_enter_27 (by decide) (fun h27 => ?_) (fun h27 => ?_)
  · refine xj_aload_n E d_X10_enter_41 rfl ?_
    refine xj_geti E fl_X10_181 (by decide) rfl (by decide) rfl d_X10_enter_42 ?_
    refine xj_st (st' := [.inl g, .inl (nI k), .inr (62, 0)]) (by
      rw [← hg]
      first
        | (rw [if_pos ⟨hk0, by rw [hck1] at h27; exact Int32.not_lt.mp h27⟩, hck1])
        | (rw [if_neg (fun z => by rw [hck1] at h27; exact Int32.not_lt.mpr z.2 h27)])
        | (rw [if_neg (fun z => nI_nle z.1 (by omega) h14)])) ?_
    refine xj_iast E (by decide) hik d_X10_enter_45 ?_
    refine xj_mem (μ' := mset μ 62 0 k g) (by rw [hck]) ?_
    exact s46
  refine xj_aload_n E d_X10_enter_30 rfl ?_
  refine xj_geta E fl_X10_80 (by decide) rfl (by decide) rfl d_X10_enter_31 ?_
  refine xj_iload_n E d_X10_enter_34 rfl ?_
  refine xj_iconst (v := 1) E d_X10_enter_35 (by decide) ?_
  refine xj_isub E d_X10_enter_36 ?_
  refine xj_st (st' := [.inl (nI (k - 1)), .inr (62, 0), .inl (nI k), .inr (62, 0)]) (by rw [nI_s1 hk0]) ?_
  refine xj_iald E (by decide) hik1 d_X10_enter_37 ?_
  refine xj_goto (tgt := 45) E d_X10_enter_38 (by decide) ?_
  refine xj_st (st' := [.inl g, .inl (nI k), .inr (62, 0)]) (by
    rw [← hg]
    first
      | (rw [if_pos ⟨hk0, by rw [hck1] at h27; exact Int32.not_lt.mp h27⟩, hck1])
      | (rw [if_neg (fun z => by rw [hck1] at h27; exact Int32.not_lt.mpr z.2 h27)])
      | (rw [if_neg (fun z => nI_nle z.1 (by omega) h14)])) ?_
  refine xj_iast E (by decide) hik d_X10_enter_45 ?_
  refine xj_mem (μ' := mset μ 62 0 k g) (by rw [hck]) ?_
  exact s46

set_option maxRecDepth 100000 in
set_option maxHeartbeats 4000000 in
/-- X10 resume -/
theorem k_X10_resume (l : Launch) (G : XG) (hI : XI G) (k : Nat) (μ : Mem) (hk : k < 24) (hok : okE (μ 61 0 k)) : XMet l G y_X10_resume c_X10_resume 3 (some .boolean) 1 [.inr (24, 0), .inl (nI k)] μ (fun r μ' => (¬ μ 24 0 40 = 0 ∧ (mBh μ (μ 61 0 k)) = 5 ∧ r = some (.inl 0) ∧ μ' = mAns μ 0 (-(μ 24 0 41))) ∨ (¬ μ 24 0 40 = 0 ∧ ¬ (mBh μ (μ 61 0 k)) = 5 ∧ r = some (.inl 0) ∧ μ' = μ) ∨ (μ 24 0 40 = 0 ∧ (mBh μ (μ 61 0 k)) = 1 ∧ μ 63 0 k = 1 ∧ r = some (.inl 1) ∧ μ' = mset (mset μ 63 0 k 2) 64 0 k (μ 24 0 41)) ∨ (μ 24 0 40 = 0 ∧ ¬ ((mBh μ (μ 61 0 k)) = 1 ∧ μ 63 0 k = 1) ∧ r = some (.inl 0) ∧ μ' = mset μ 24 0 41 (if (mBh μ (μ 61 0 k)) = 1 then μ 64 0 k + μ 24 0 41 else if (mBh μ (μ 61 0 k)) = 3 then 2 * μ 24 0 41 else μ 24 0 41))) := by
  refine xj_met (by decide) hI (Nat.le_of_ble_eq_true rfl) ?_
  intro p e s m args below meth c E hr hlk
  have E : XE G (xA G) RX10 c_X10_resume 3 p s m args c := E
  refine xj_loc (L' := [some (.inr (24, 0)), some (.inl (nI k)), none]) rfl ?_
  have hck : (nI k).toNatClampNeg = k := cl_nI (by omega)
  have hik : vp_in (nI k) 24 := in_nI (by omega) (by omega)
  refine xj_aload_n E d_X10_resume_0 rfl ?_
  refine xj_aload_n E d_X10_resume_1 rfl ?_
  refine xj_geta E fl_X10_77 (by decide) rfl (by decide) rfl d_X10_resume_2 ?_
  refine xj_iload_n E d_X10_resume_5 rfl ?_
  refine xj_iald E (by decide) hik d_X10_resume_6 ?_
  refine xj_st (st' := [.inl (μ 61 0 k), .inr (24, 0)]) (by rw [hck]) ?_
  refine xj_callV E (k_X10_behaviourOf l G hI _ _ hok) cw_X10_188 cv_X10_behaviourOf (by decide) rfl rfl rfl ⟨by decide, by decide⟩ (Nat.le_of_ble_eq_true rfl) d_X10_resume_7 ⟨Nat.zero_le _, Nat.zero_le _⟩ (fun r7 μ7 ho7 hp7 => ?_)
  obtain ⟨rfl, hm7⟩ := hp7
  refine xj_mem hm7 ?_
  refine xj_istore_n E d_X10_resume_10 (by decide) rfl ?_
  refine xj_aload_n E d_X10_resume_11 rfl ?_
  refine xj_geti E fl_X10_175 (by decide) rfl (by decide) rfl d_X10_resume_12 ?_
  refine xj_if_eq (tgt := 35) E d_X10_resume_15 (by decide) (fun h15 => ?_) (fun h15 => ?_)
  · refine xj_iload_n E d_X10_resume_35 rfl ?_
    refine xj_iconst (v := 1) E d_X10_resume_36 (by decide) ?_
    refine xj_icmp_ne (tgt := 69) E d_X10_resume_37 (by decide) (fun h37 => ?_) (fun h37 => ?_)
    · refine xj_aload_n E d_X10_resume_69 rfl ?_
      refine xj_iload_n E d_X10_resume_70 rfl ?_
      refine xj_iconst (v := 1) E d_X10_resume_71 (by decide) ?_
      refine xj_icmp_ne (tgt := 89) E d_X10_resume_72 (by decide) (fun h72 => ?_) (fun h72 => ?_)
      · refine xj_iload_n E d_X10_resume_89 rfl ?_
        refine xj_iconst (v := 3) E d_X10_resume_90 (by decide) ?_
        refine xj_icmp_ne (tgt := 103) E d_X10_resume_91 (by decide) (fun h91 => ?_) (fun h91 => ?_)
        · refine xj_aload_n E d_X10_resume_103 rfl ?_
          refine xj_geti E fl_X10_178 (by decide) rfl (by decide) rfl d_X10_resume_104 ?_
          refine xj_st (st' := [.inl (if (mBh μ (μ 61 0 k)) = 1 then μ 64 0 k + μ 24 0 41 else if (mBh μ (μ 61 0 k)) = 3 then 2 * μ 24 0 41 else μ 24 0 41), .inr (24, 0)]) (by first | (rw [if_pos h72, hck]; rfl) | (rw [if_neg h72, if_pos h91]; rfl) | (rw [if_neg h72, if_neg h91]; rfl) | (rw [if_neg h72, if_pos h91]) | (rw [if_neg h72, if_neg h91])) ?_
          refine xj_put E fp_X10_178 (by decide) rfl (by decide) rfl (narrow_i _) d_X10_resume_107 ?_
          refine xj_iconst (v := 0) E d_X10_resume_110 (by decide) ?_
          exact xj_zret E hr hlk (Or.inl rfl) d_X10_resume_111 (by first | exact Or.inr (Or.inr (Or.inr ⟨h15, fun z => h47 (by rw [hck]; exact z.2), rfl, rfl⟩)) | exact Or.inr (Or.inr (Or.inr ⟨h15, fun z => h37 z.1, rfl, rfl⟩)))
        refine xj_iconst (v := 2) E d_X10_resume_94 (by decide) ?_
        refine xj_aload_n E d_X10_resume_95 rfl ?_
        refine xj_geti E fl_X10_178 (by decide) rfl (by decide) rfl d_X10_resume_96 ?_
        refine xj_imul E d_X10_resume_99 ?_
        refine xj_goto (tgt := 107) E d_X10_resume_100 (by decide) ?_
        refine xj_st (st' := [.inl (if (mBh μ (μ 61 0 k)) = 1 then μ 64 0 k + μ 24 0 41 else if (mBh μ (μ 61 0 k)) = 3 then 2 * μ 24 0 41 else μ 24 0 41), .inr (24, 0)]) (by first | (rw [if_pos h72, hck]; rfl) | (rw [if_neg h72, if_pos h91]; rfl) | (rw [if_neg h72, if_neg h91]; rfl) | (rw [if_neg h72, if_pos h91]) | (rw [if_neg h72, if_neg h91])) ?_
        refine xj_put E fp_X10_178 (by decide) rfl (by decide) rfl (narrow_i _) d_X10_resume_107 ?_
        refine xj_iconst (v := 0) E d_X10_resume_110 (by decide) ?_
        exact xj_zret E hr hlk (Or.inl rfl) d_X10_resume_111 (by first | exact Or.inr (Or.inr (Or.inr ⟨h15, fun z => h47 (by rw [hck]; exact z.2), rfl, rfl⟩)) | exact Or.inr (Or.inr (Or.inr ⟨h15, fun z => h37 z.1, rfl, rfl⟩)))
      refine xj_aload_n E d_X10_resume_75 rfl ?_
      refine xj_geta E fl_X10_86 (by decide) rfl (by decide) rfl d_X10_resume_76 ?_
      refine xj_iload_n E d_X10_resume_79 rfl ?_
      refine xj_iald E (by decide) hik d_X10_resume_80 ?_
      refine xj_aload_n E d_X10_resume_81 rfl ?_
      refine xj_geti E fl_X10_178 (by decide) rfl (by decide) rfl d_X10_resume_82 ?_
      refine xj_iadd E d_X10_resume_85 ?_
      refine xj_goto (tgt := 107) E d_X10_resume_86 (by decide) ?_
      refine xj_st (st' := [.inl (if (mBh μ (μ 61 0 k)) = 1 then μ 64 0 k + μ 24 0 41 else if (mBh μ (μ 61 0 k)) = 3 then 2 * μ 24 0 41 else μ 24 0 41), .inr (24, 0)]) (by first | (rw [if_pos h72, hck]; rfl) | (rw [if_neg h72, if_pos h91]; rfl) | (rw [if_neg h72, if_neg h91]; rfl) | (rw [if_neg h72, if_pos h91]) | (rw [if_neg h72, if_neg h91])) ?_
      refine xj_put E fp_X10_178 (by decide) rfl (by decide) rfl (narrow_i _) d_X10_resume_107 ?_
      refine xj_iconst (v := 0) E d_X10_resume_110 (by decide) ?_
      exact xj_zret E hr hlk (Or.inl rfl) d_X10_resume_111 (by first | exact Or.inr (Or.inr (Or.inr ⟨h15, fun z => h47 (by rw [hck]; exact z.2), rfl, rfl⟩)) | exact Or.inr (Or.inr (Or.inr ⟨h15, fun z => h37 z.1, rfl, rfl⟩)))
    refine xj_aload_n E d_X10_resume_40 rfl ?_
    refine xj_geta E fl_X10_83 (by decide) rfl (by decide) rfl d_X10_resume_41 ?_
    refine xj_iload_n E d_X10_resume_44 rfl ?_
    refine xj_iald E (by decide) hik d_X10_resume_45 ?_
    refine xj_iconst (v := 1) E d_X10_resume_46 (by decide) ?_
    refine xj_icmp_ne (tgt := 69) E d_X10_resume_47 (by decide) (fun h47 => ?_) (fun h47 => ?_)
    · refine xj_aload_n E d_X10_resume_69 rfl ?_
      refine xj_iload_n E d_X10_resume_70 rfl ?_
      refine xj_iconst (v := 1) E d_X10_resume_71 (by decide) ?_
      refine xj_icmp_ne (tgt := 89) E d_X10_resume_72 (by decide) (fun h72 => ?_) (fun h72 => ?_)
      · refine xj_iload_n E d_X10_resume_89 rfl ?_
        refine xj_iconst (v := 3) E d_X10_resume_90 (by decide) ?_
        refine xj_icmp_ne (tgt := 103) E d_X10_resume_91 (by decide) (fun h91 => ?_) (fun h91 => ?_)
        · refine xj_aload_n E d_X10_resume_103 rfl ?_
          refine xj_geti E fl_X10_178 (by decide) rfl (by decide) rfl d_X10_resume_104 ?_
          refine xj_st (st' := [.inl (if (mBh μ (μ 61 0 k)) = 1 then μ 64 0 k + μ 24 0 41 else if (mBh μ (μ 61 0 k)) = 3 then 2 * μ 24 0 41 else μ 24 0 41), .inr (24, 0)]) (by first | (rw [if_pos h72, hck]; rfl) | (rw [if_neg h72, if_pos h91]; rfl) | (rw [if_neg h72, if_neg h91]; rfl) | (rw [if_neg h72, if_pos h91]) | (rw [if_neg h72, if_neg h91])) ?_
          refine xj_put E fp_X10_178 (by decide) rfl (by decide) rfl (narrow_i _) d_X10_resume_107 ?_
          refine xj_iconst (v := 0) E d_X10_resume_110 (by decide) ?_
          exact xj_zret E hr hlk (Or.inl rfl) d_X10_resume_111 (by first | exact Or.inr (Or.inr (Or.inr ⟨h15, fun z => h47 (by rw [hck]; exact z.2), rfl, rfl⟩)) | exact Or.inr (Or.inr (Or.inr ⟨h15, fun z => h37 z.1, rfl, rfl⟩)))
        refine xj_iconst (v := 2) E d_X10_resume_94 (by decide) ?_
        refine xj_aload_n E d_X10_resume_95 rfl ?_
        refine xj_geti E fl_X10_178 (by decide) rfl (by decide) rfl d_X10_resume_96 ?_
        refine xj_imul E d_X10_resume_99 ?_
        refine xj_goto (tgt := 107) E d_X10_resume_100 (by decide) ?_
        refine xj_st (st' := [.inl (if (mBh μ (μ 61 0 k)) = 1 then μ 64 0 k + μ 24 0 41 else if (mBh μ (μ 61 0 k)) = 3 then 2 * μ 24 0 41 else μ 24 0 41), .inr (24, 0)]) (by first | (rw [if_pos h72, hck]; rfl) | (rw [if_neg h72, if_pos h91]; rfl) | (rw [if_neg h72, if_neg h91]; rfl) | (rw [if_neg h72, if_pos h91]) | (rw [if_neg h72, if_neg h91])) ?_
        refine xj_put E fp_X10_178 (by decide) rfl (by decide) rfl (narrow_i _) d_X10_resume_107 ?_
        refine xj_iconst (v := 0) E d_X10_resume_110 (by decide) ?_
        exact xj_zret E hr hlk (Or.inl rfl) d_X10_resume_111 (by first | exact Or.inr (Or.inr (Or.inr ⟨h15, fun z => h47 (by rw [hck]; exact z.2), rfl, rfl⟩)) | exact Or.inr (Or.inr (Or.inr ⟨h15, fun z => h37 z.1, rfl, rfl⟩)))
      refine xj_aload_n E d_X10_resume_75 rfl ?_
      refine xj_geta E fl_X10_86 (by decide) rfl (by decide) rfl d_X10_resume_76 ?_
      refine xj_iload_n E d_X10_resume_79 rfl ?_
      refine xj_iald E (by decide) hik d_X10_resume_80 ?_
      refine xj_aload_n E d_X10_resume_81 rfl ?_
      refine xj_geti E fl_X10_178 (by decide) rfl (by decide) rfl d_X10_resume_82 ?_
      refine xj_iadd E d_X10_resume_85 ?_
      refine xj_goto (tgt := 107) E d_X10_resume_86 (by decide) ?_
      refine xj_st (st' := [.inl (if (mBh μ (μ 61 0 k)) = 1 then μ 64 0 k + μ 24 0 41 else if (mBh μ (μ 61 0 k)) = 3 then 2 * μ 24 0 41 else μ 24 0 41), .inr (24, 0)]) (by first | (rw [if_pos h72, hck]; rfl) | (rw [if_neg h72, if_pos h91]; rfl) | (rw [if_neg h72, if_neg h91]; rfl) | (rw [if_neg h72, if_pos h91]) | (rw [if_neg h72, if_neg h91])) ?_
      refine xj_put E fp_X10_178 (by decide) rfl (by decide) rfl (narrow_i _) d_X10_resume_107 ?_
      refine xj_iconst (v := 0) E d_X10_resume_110 (by decide) ?_
      exact xj_zret E hr hlk (Or.inl rfl) d_X10_resume_111 (by first | exact Or.inr (Or.inr (Or.inr ⟨h15, fun z => h47 (by rw [hck]; exact z.2), rfl, rfl⟩)) | exact Or.inr (Or.inr (Or.inr ⟨h15, fun z => h37 z.1, rfl, rfl⟩)))
    refine xj_aload_n E d_X10_resume_50 rfl ?_
    refine xj_geta E fl_X10_83 (by decide) rfl (by decide) rfl d_X10_resume_51 ?_
    refine xj_iload_n E d_X10_resume_54 rfl ?_
    refine xj_iconst (v := 2) E d_X10_resume_55 (by decide) ?_
    refine xj_iast E (by decide) hik d_X10_resume_56 ?_
    refine xj_aload_n E d_X10_resume_57 rfl ?_
    refine xj_geta E fl_X10_86 (by decide) rfl (by decide) rfl d_X10_resume_58 ?_
    refine xj_iload_n E d_X10_resume_61 rfl ?_
    refine xj_aload_n E d_X10_resume_62 rfl ?_
    refine xj_geti E fl_X10_178 (by decide) rfl (by decide) rfl d_X10_resume_63 ?_
    refine xj_iast E (by decide) hik d_X10_resume_66 ?_
    refine xj_iconst (v := 1) E d_X10_resume_67 (by decide) ?_
    exact xj_zret E hr hlk (Or.inr rfl) d_X10_resume_68 (Or.inr (Or.inr (Or.inl ⟨h15, h37, by rw [hck] at h47; exact h47, rfl, by rw [hck]; rfl⟩)))
  refine xj_iload_n E d_X10_resume_18 rfl ?_
  refine xj_iconst (v := 5) E d_X10_resume_19 (by decide) ?_
  refine xj_icmp_ne (tgt := 33) E d_X10_resume_20 (by decide) (fun h20 => ?_) (fun h20 => ?_)
  · refine xj_iconst (v := 0) E d_X10_resume_33 (by decide) ?_
    exact xj_zret E hr hlk (Or.inl rfl) d_X10_resume_34 (by first | exact Or.inl ⟨h15, h20, rfl, rfl⟩ | exact Or.inr (Or.inl ⟨h15, h20, rfl, rfl⟩))
  refine xj_aload_n E d_X10_resume_23 rfl ?_
  refine xj_iconst (v := 0) E d_X10_resume_24 (by decide) ?_
  refine xj_aload_n E d_X10_resume_25 rfl ?_
  refine xj_geti E fl_X10_178 (by decide) rfl (by decide) rfl d_X10_resume_26 ?_
  refine xj_ineg E d_X10_resume_29 ?_
  refine xj_callV E (k_X10_answer l G hI 0 _ _ (Or.inl rfl)) cw_X10_184 cv_X10_answer (by decide) rfl rfl rfl ⟨by decide, by decide⟩ (Nat.le_of_ble_eq_true rfl) d_X10_resume_30 ⟨Nat.zero_le _, Nat.zero_le _⟩ (fun r30 μ30 ho30 hp30 => ?_)
  obtain ⟨rfl, hm30⟩ := hp30
  refine xj_mem hm30 ?_
  refine xj_iconst (v := 0) E d_X10_resume_33 (by decide) ?_
  exact xj_zret E hr hlk (Or.inl rfl) d_X10_resume_34 (by first | exact Or.inl ⟨h15, h20, rfl, rfl⟩ | exact Or.inr (Or.inl ⟨h15, h20, rfl, rfl⟩))
