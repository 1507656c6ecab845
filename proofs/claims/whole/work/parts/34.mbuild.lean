def kdM (k : Nat) : Int32 := if k < 4 then 1 else (1 : Int32) <<< ((nI k - 3) &&& 31)
noncomputable def bdM (μ : Mem) (FP : Nat → Int32 → Prop) (kind : Int32) (p i : Nat) : Bool := decide (μ 38 0 i = nI (p + 1)) && (decide (¬ μ 39 0 i &&& kind = 0) && bq (0 < mnb μ i ∧ ∀ t v, mPair μ i t v → FP t v))
theorem bdM_u (μ : Mem) (FP : Nat → Int32 → Prop) (kind : Int32) : ∀ p p' i, p < 9 → p' < 9 → bdM μ FP kind p i = true → bdM μ FP kind p' i = true → p = p' := by
  intro p p' i hp hp' h1 h2
  unfold bdM at h1 h2
  simp only [Bool.and_eq_true, decide_eq_true_eq] at h1 h2
  have := (nI_eq (by omega) (by omega)).mp (h1.1.symm.trans h2.1)
  omega
def bdN (μ : Mem) (ot y : Int32) (p d : Nat) : Bool := decide (μ 42 0 d = nI (p + 1)) && decide ((μ 44 0 d >>> (y &&& 31)) &&& 1 = 1 ∧ (ot >>> (μ 43 0 d &&& 31)) &&& 1 = 1)
theorem bdN_u (μ : Mem) (ot y : Int32) : ∀ p p' i, p < 9 → p' < 9 → bdN μ ot y p i = true → bdN μ ot y p' i = true → p = p' := by
  intro p p' i hp hp' h1 h2
  unfold bdN at h1 h2
  simp only [Bool.and_eq_true, decide_eq_true_eq] at h1 h2
  have := (nI_eq (by omega) (by omega)).mp (h1.1.symm.trans h2.1)
  omega
def mA1 (μ : Mem) (j k : Nat) : List Int32 := if k < 4 ∧ ¬ μ 48 0 (4 * j + k) &&& 2 = 0 then [] else (mLs μ (8 + j) (kdM k) (mnl μ (8 + j))).map nI
def mA2 (μ : Mem) (j k : Nat) : List Int32 := if k < 4 then (mLs μ (12 + 4 * j + k) (kdM k) (mnl μ (12 + 4 * j + k))).map nI else []
noncomputable def mBs (μ : Mem) (j k p i : Nat) : List Int32 := (sel (bdM μ (mFP μ j k) (kdM k)) (mni μ) p i).map nI
def mDs (μ : Mem) (j k p i : Nat) : List Int32 := (sel (bdN μ (μ 47 0 j) (nI k)) (mnd μ) p i).map (fun d => nI (16 + d))
noncomputable def mChn (μ : Mem) (j k : Nat) : List Int32 := mA1 μ j k ++ mA2 μ j k ++ mBs μ j k 9 0 ++ (if k < 4 then mDs μ j k 9 0 else []) ++ [32]
theorem mA1_len {μ : Mem} (hw : mWF μ) {j k : Nat} (hj : j < mnp μ) : (mA1 μ j k).length ≤ 4 := by
  have h := (hw.2.2.2.2.2 (5 * j) (by omega)).2.1.2
  rw [rq_own] at h
  unfold mA1
  split
  · simp
  · have := mLs_len μ (8 + j) (kdM k) (mnl μ (8 + j))
    rw [List.length_map]; omega
theorem mA2_len {μ : Mem} (hw : mWF μ) {j k : Nat} (hj : j < mnp μ) : (mA2 μ j k).length ≤ 4 := by
  unfold mA2
  split
  · rename_i h4
    have h := (hw.2.2.2.2.2 (5 * j + 1 + k) (by omega)).2.1.2
    rw [rq_m h4] at h
    have := mLs_len μ (12 + 4 * j + k) (kdM k) (mnl μ (12 + 4 * j + k))
    rw [List.length_map]; omega
  · simp
theorem mBs_len {μ : Mem} (hw : mWF μ) {j k p i : Nat} (hp : p ≤ 9) (hi : i ≤ mni μ) (hq : p < 9 ∨ i = 0) : (mBs μ j k p i).length ≤ 8 := by
  have := sel_len (n := mni μ) (bdM_u μ (mFP μ j k) (kdM k)) hp hi hq
  have := hw.2.1.2
  unfold mBs
  rw [List.length_map]; omega
theorem mDs_len {μ : Mem} (hw : mWF μ) {j k p i : Nat} (hp : p ≤ 9) (hi : i ≤ mnd μ) (hq : p < 9 ∨ i = 0) : (mDs μ j k p i).length ≤ 4 := by
  have := sel_len (n := mnd μ) (bdN_u μ (μ 47 0 j) (nI k)) hp hi hq
  have := hw.2.2.1.2
  unfold mDs
  rw [List.length_map]; omega

theorem frN.u {μ μ' : Mem} (h : frN μ μ') : frL μ μ' := h.up (by decide) (by decide)
theorem frD.ml {μ μ' : Mem} (h : frD μ μ') (r : Nat) (kind : Int32) : ∀ n, mLs μ' r kind n = mLs μ r kind n
  | 0 => rfl
  | n + 1 => by unfold mLs; rw [h.ml r kind n, h.1 39 (by decide), h.1 53 (by decide)]

set_option maxRecDepth 100000 in
set_option maxHeartbeats 4000000 in
/-- X10 build -/
theorem k_X10_build (l : Launch) (G : XG) (hI : XI G) (j k : Nat) (μ : Mem) (hw : mWF μ) (hj : j < mnp μ) (hk7 : k < 7) : XMet l G y_X10_build c_X10_build 6 none 3 [.inr (24, 0), .inl (nI j), .inl (nI k)] μ (fun rr μ' => rr = none ∧ nIs μ' (mChn μ j k) ∧ frL μ μ') := by
  refine xj_met (by decide) hI (Nat.le_of_ble_eq_true rfl) ?_
  intro p e s m args below meth c E hr hlk
  have E : XE G (xA G) RX10 c_X10_build 6 p s m args c := E
  refine xj_loc (L' := [some (.inr (24, 0)), some (.inl (nI j)), some (.inl (nI k)), none, none, none]) rfl ?_
  have hnp := hw.2.2.2.1
  have hnd4 := hw.2.2.1.2
  have hni8 := hw.2.1.2
  have hl1 := mA1_len hw (k := k) hj
  have hl2 := mA2_len hw (k := k) hj
  have hl3 := mBs_len hw (j := j) (k := k) (p := 9) (i := 0) (by omega) (by omega) (Or.inr rfl)
  have sE : ∀ (μ1 : Mem) (x : Option XV), frL μ μ1 → nIs μ1 ((mA1 μ j k ++ mA2 μ j k ++ mBs μ j k 9 0) ++ (if k < 4 then mDs μ j k 9 0 else [])) → XJ G (xA G) 6 p l e (xr 3) s m args below meth c 0 0 (MQ below (xQ G (fun rr μ' => rr = none ∧ nIs μ' (mChn μ j k) ∧ frL μ μ')) args s 0 0 (xA G)) 245 [some (.inr (24, 0)), some (.inl (nI j)), some (.inl (nI k)), some (.inl (kdM k)), x, none] [] μ1 := by
    intro μ1 x hfr hc
    have hl4 : (if k < 4 then mDs μ j k 9 0 else []).length ≤ 4 := by
      split
      · exact mDs_len hw (by omega) (by omega) (Or.inr rfl)
      · simp
    have hll : ((mA1 μ j k ++ mA2 μ j k ++ mBs μ j k 9 0) ++ (if k < 4 then mDs μ j k 9 0 else [])).length ≤ 20 := by simp only [List.length_append]; omega
    have hin : vp_in (μ1 24 0 30) 24 := by rw [hc.1]; exact in_nI (by omega) (by omega)
    have hcl : (μ1 24 0 30).toNatClampNeg = ((mA1 μ j k ++ mA2 μ j k ++ mBs μ j k 9 0) ++ (if k < 4 then mDs μ j k 9 0 else [])).length := by rw [hc.1]; exact cl_nI (by omega)
    refine xj_aload_n E d_X10_build_245 rfl ?_
    refine xj_geta E fl_X10_77 (by decide) rfl (by decide) rfl d_X10_build_246 ?_
    refine xj_aload_n E d_X10_build_249 rfl ?_
    refine xj_geti E fl_X10_150 (by decide) rfl (by decide) rfl d_X10_build_250 ?_
    refine xj_bipush (v := 32) E d_X10_build_253 (by decide) ?_
    refine xj_iast E (by decide) hin d_X10_build_255 ?_
    refine xj_aload_n E d_X10_build_256 rfl ?_
    refine xj_dup E d_X10_build_257 ?_
    refine xj_geti E fl_X10_150 (by decide) rfl (by decide) rfl d_X10_build_258 ?_
    refine xj_iconst (v := 1) E d_X10_build_261 (by decide) ?_
    refine xj_iadd E d_X10_build_262 ?_
    refine xj_put E fp_X10_150 (by decide) rfl (by decide) rfl (narrow_i _) d_X10_build_263 ?_
    exact xj_vret E hr hlk d_X10_build_266 (⟨rfl, by unfold mChn; show nIs (mset (mset μ1 61 0 (μ1 24 0 30).toNatClampNeg 32) 24 0 30 (μ1 24 0 30 + 1)) _; rw [hcl, hc.1, nI_1]; exact hc.app, hfr.tr (frN_app (x := 0)).u⟩)
  have lpd2 : k < 4 → ∀ (p1 n i : Nat) (μ1 : Mem), p1 < 9 → mnd μ - i = n → i ≤ mnd μ → frL μ μ1 → nIs μ1 ((mA1 μ j k ++ mA2 μ j k ++ mBs μ j k 9 0) ++ mDs μ j k p1 i) → (∀ μ2, frL μ μ2 → nIs μ2 ((mA1 μ j k ++ mA2 μ j k ++ mBs μ j k 9 0) ++ mDs μ j k p1 (mnd μ)) → XJ G (xA G) 6 p l e (xr 3) s m args below meth c 0 0 (MQ below (xQ G (fun rr μ' => rr = none ∧ nIs μ' (mChn μ j k) ∧ frL μ μ')) args s 0 0 (xA G)) 239 [some (.inr (24, 0)), some (.inl (nI j)), some (.inl (nI k)), some (.inl (kdM k)), some (.inl (nI (p1 + 1))), none] [] μ2) → XJ G (xA G) 6 p l e (xr 3) s m args below meth c 0 0 (MQ below (xQ G (fun rr μ' => rr = none ∧ nIs μ' (mChn μ j k) ∧ frL μ μ')) args s 0 0 (xA G)) 153 [some (.inr (24, 0)), some (.inl (nI j)), some (.inl (nI k)), some (.inl (kdM k)), some (.inl (nI (p1 + 1))), some (.inl (nI i))] [] μ1 := by
    intro hk4 p1 n
    induction n using Nat.strongRecOn with
    | _ n ih =>
    intro i μ1 hp1 hn hi hfr hc hx
    have hd := hfr.d
    have e2 : μ1 24 0 11 = nI (mnd μ) := (hd.2 11 (by decide)).trans hw.2.2.1.1
    have hlm := mDs_len hw (j := j) (k := k) (p := p1) (i := i) (by omega) hi (Or.inl hp1)
    have hll : ((mA1 μ j k ++ mA2 μ j k ++ mBs μ j k 9 0) ++ mDs μ j k p1 i).length ≤ 20 := by simp only [List.length_append]; omega
    have hcj : (nI j).toNatClampNeg = j := cl_nI (by omega)
    refine xj_iload E d_X10_build_153 rfl ?_
    refine xj_aload_n E d_X10_build_155 rfl ?_
    refine xj_geti E fl_X10_106 (by decide) rfl (by decide) rfl d_X10_build_156 ?_
    refine xj_icmp_ge (tgt := 239) E d_X10_build_159 (by decide) (fun h159 => ?_) (fun h159 => ?_)
    · have hk8 : i = mnd μ := by
        have := ge_nI (b := i) (by rw [← e2]; exact h159) (by omega) (by omega)
        omega
      subst hk8
      refine xj_forget 5 ?_
      exact hx _ hfr hc
    have hlt : i < mnd μ := ng_nI (b := i) (by rw [← e2]; exact h159) (by omega) (by omega)
    have hin : vp_in (nI i) 4 := in_nI (by omega) (by omega)
    have hci : (nI i).toNatClampNeg = i := cl_nI (by omega)
    have e42 := hd.1 42 (by decide)
    have e43 := hd.1 43 (by decide)
    have e44 := hd.1 44 (by decide)
    have e47 := hd.1 47 (by decide)
    refine xj_aload_n E d_X10_build_162 rfl ?_
    refine xj_geta E fl_X10_32 (by decide) rfl (by decide) rfl d_X10_build_163 ?_
    refine xj_iload E d_X10_build_166 rfl ?_
    refine xj_iald E (by decide) hin d_X10_build_168 ?_
    refine xj_iload E d_X10_build_169 rfl ?_
    refine xj_icmp_ne (tgt := 233) E d_X10_build_171 (by decide) (fun h171 => ?_) (fun h171 => ?_)
    · refine xj_iinc (v := nI (i + 1)) E d_X10_build_233 rfl (nI_inc i) rfl ?_
      refine xj_goto (tgt := 153) E d_X10_build_236 (by decide) ?_
      first
        | (refine ih (mnd μ - (i + 1)) (by omega) (i + 1) _ hp1 rfl (by omega) (hfr.tr (frN_app (x := 0)).u) ?_ hx
           unfold mDs
           rw [sel_yes hbd, List.map_append, ← List.append_assoc]
           show nIs (mset (mset μ1 61 0 (μ1 24 0 30).toNatClampNeg (nI (16 + i))) 24 0 30 (μ1 24 0 30 + 1)) _
           rw [hcl, hc.1, nI_1]
           exact hc.app)
        | (refine ih (mnd μ - (i + 1)) (by omega) (i + 1) _ hp1 rfl (by omega) hfr ?_ hx
           have hbd : bdN μ (μ 47 0 j) (nI k) p1 i = false := by
             unfold bdN
             simp only [Bool.and_eq_false_iff, decide_eq_false_iff_not]
             first
               | (rw [hci, hcj, e43, e47] at h206; exact Or.inr (fun q => h206 q.2))
               | (rw [hci, e44] at h186; exact Or.inr (fun q => h186 q.1))
               | (rw [hci, e42] at h171; exact Or.inl h171)
           unfold mDs
           rw [sel_no hbd]
           exact hc)
    refine xj_aload_n E d_X10_build_174 rfl ?_
    refine xj_geta E fl_X10_38 (by decide) rfl (by decide) rfl d_X10_build_175 ?_
    refine xj_iload E d_X10_build_178 rfl ?_
    refine xj_iald E (by decide) hin d_X10_build_180 ?_
    refine xj_iload_n E d_X10_build_181 rfl ?_
    refine xj_ishr E d_X10_build_182 ?_
    refine xj_iconst (v := 1) E d_X10_build_183 (by decide) ?_
    refine xj_iand E d_X10_build_184 ?_
    refine xj_iconst (v := 1) E d_X10_build_185 (by decide) ?_
    refine xj_icmp_ne (tgt := 233) E d_X10_build_186 (by decide) (fun h186 => ?_) (fun h186 => ?_)
    · refine xj_iinc (v := nI (i + 1)) E d_X10_build_233 rfl (nI_inc i) rfl ?_
      refine xj_goto (tgt := 153) E d_X10_build_236 (by decide) ?_
      first
        | (refine ih (mnd μ - (i + 1)) (by omega) (i + 1) _ hp1 rfl (by omega) (hfr.tr (frN_app (x := 0)).u) ?_ hx
           unfold mDs
           rw [sel_yes hbd, List.map_append, ← List.append_assoc]
           show nIs (mset (mset μ1 61 0 (μ1 24 0 30).toNatClampNeg (nI (16 + i))) 24 0 30 (μ1 24 0 30 + 1)) _
           rw [hcl, hc.1, nI_1]
           exact hc.app)
        | (refine ih (mnd μ - (i + 1)) (by omega) (i + 1) _ hp1 rfl (by omega) hfr ?_ hx
           have hbd : bdN μ (μ 47 0 j) (nI k) p1 i = false := by
             unfold bdN
             simp only [Bool.and_eq_false_iff, decide_eq_false_iff_not]
             first
               | (rw [hci, hcj, e43, e47] at h206; exact Or.inr (fun q => h206 q.2))
               | (rw [hci, e44] at h186; exact Or.inr (fun q => h186 q.1))
               | (rw [hci, e42] at h171; exact Or.inl h171)
           unfold mDs
           rw [sel_no hbd]
           exact hc)
    refine xj_aload_n E d_X10_build_189 rfl ?_
    refine xj_geta E fl_X10_44 (by decide) rfl (by decide) rfl d_X10_build_190 ?_
    refine xj_iload_n E d_X10_build_193 rfl ?_
    refine xj_iald E (by decide) (show vp_in (nI j) 4 from in_nI (by omega) (by omega)) d_X10_build_194 ?_
    refine xj_aload_n E d_X10_build_195 rfl ?_
    refine xj_geta E fl_X10_35 (by decide) rfl (by decide) rfl d_X10_build_196 ?_
    refine xj_iload E d_X10_build_199 rfl ?_
    refine xj_iald E (by decide) hin d_X10_build_201 ?_
    refine xj_ishr E d_X10_build_202 ?_
    refine xj_iconst (v := 1) E d_X10_build_203 (by decide) ?_
    refine xj_iand E d_X10_build_204 ?_
    refine xj_iconst (v := 1) E d_X10_build_205 (by decide) ?_
    refine xj_icmp_ne (tgt := 233) E d_X10_build_206 (by decide) (fun h206 => ?_) (fun h206 => ?_)
    · refine xj_iinc (v := nI (i + 1)) E d_X10_build_233 rfl (nI_inc i) rfl ?_
      refine xj_goto (tgt := 153) E d_X10_build_236 (by decide) ?_
      first
        | (refine ih (mnd μ - (i + 1)) (by omega) (i + 1) _ hp1 rfl (by omega) (hfr.tr (frN_app (x := 0)).u) ?_ hx
           unfold mDs
           rw [sel_yes hbd, List.map_append, ← List.append_assoc]
           show nIs (mset (mset μ1 61 0 (μ1 24 0 30).toNatClampNeg (nI (16 + i))) 24 0 30 (μ1 24 0 30 + 1)) _
           rw [hcl, hc.1, nI_1]
           exact hc.app)
        | (refine ih (mnd μ - (i + 1)) (by omega) (i + 1) _ hp1 rfl (by omega) hfr ?_ hx
           have hbd : bdN μ (μ 47 0 j) (nI k) p1 i = false := by
             unfold bdN
             simp only [Bool.and_eq_false_iff, decide_eq_false_iff_not]
             first
               | (rw [hci, hcj, e43, e47] at h206; exact Or.inr (fun q => h206 q.2))
               | (rw [hci, e44] at h186; exact Or.inr (fun q => h186 q.1))
               | (rw [hci, e42] at h171; exact Or.inl h171)
           unfold mDs
           rw [sel_no hbd]
           exact hc)
    have hbd : bdN μ (μ 47 0 j) (nI k) p1 i = true := by
      rw [hci, e42] at h171
      rw [hci, e44] at h186
      rw [hci, hcj, e43, e47] at h206
      unfold bdN
      simp only [Bool.and_eq_true, decide_eq_true_eq]
      exact ⟨h171, h186, h206⟩
    have hin2 : vp_in (μ1 24 0 30) 24 := by rw [hc.1]; exact in_nI (by omega) (by omega)
    have hcl : (μ1 24 0 30).toNatClampNeg = ((mA1 μ j k ++ mA2 μ j k ++ mBs μ j k 9 0) ++ mDs μ j k p1 i).length := by rw [hc.1]; exact cl_nI (by omega)
    refine xj_aload_n E d_X10_build_209 rfl ?_
    refine xj_geta E fl_X10_77 (by decide) rfl (by decide) rfl d_X10_build_210 ?_
    refine xj_aload_n E d_X10_build_213 rfl ?_
    refine xj_geti E fl_X10_150 (by decide) rfl (by decide) rfl d_X10_build_214 ?_
    refine xj_bipush (v := 16) E d_X10_build_217 (by decide) ?_
    refine xj_iload E d_X10_build_219 rfl ?_
    refine xj_iadd E d_X10_build_221 ?_
    refine xj_st (st' := [.inl (nI (16 + i)), .inl (μ1 24 0 30), .inr (61, 0)]) (by rw [← nI_add]; rfl) ?_
    refine xj_iast E (by decide) hin2 d_X10_build_222 ?_
    refine xj_aload_n E d_X10_build_223 rfl ?_
    refine xj_dup E d_X10_build_224 ?_
    refine xj_geti E fl_X10_150 (by decide) rfl (by decide) rfl d_X10_build_225 ?_
    refine xj_iconst (v := 1) E d_X10_build_228 (by decide) ?_
    refine xj_iadd E d_X10_build_229 ?_
    refine xj_put E fp_X10_150 (by decide) rfl (by decide) rfl (narrow_i _) d_X10_build_230 ?_
    refine xj_iinc (v := nI (i + 1)) E d_X10_build_233 rfl (nI_inc i) rfl ?_
    refine xj_goto (tgt := 153) E d_X10_build_236 (by decide) ?_
    first
      | (refine ih (mnd μ - (i + 1)) (by omega) (i + 1) _ hp1 rfl (by omega) (hfr.tr (frN_app (x := 0)).u) ?_ hx
         unfold mDs
         rw [sel_yes hbd, List.map_append, ← List.append_assoc]
         show nIs (mset (mset μ1 61 0 (μ1 24 0 30).toNatClampNeg (nI (16 + i))) 24 0 30 (μ1 24 0 30 + 1)) _
         rw [hcl, hc.1, nI_1]
         exact hc.app)
      | (refine ih (mnd μ - (i + 1)) (by omega) (i + 1) _ hp1 rfl (by omega) hfr ?_ hx
         have hbd : bdN μ (μ 47 0 j) (nI k) p1 i = false := by
           unfold bdN
           simp only [Bool.and_eq_false_iff, decide_eq_false_iff_not]
           first
             | (rw [hci, hcj, e43, e47] at h206; exact Or.inr (fun q => h206 q.2))
             | (rw [hci, e44] at h186; exact Or.inr (fun q => h186 q.1))
             | (rw [hci, e42] at h171; exact Or.inl h171)
         unfold mDs
         rw [sel_no hbd]
         exact hc)
  have lpd1 : k < 4 → ∀ (n p1 : Nat) (μ1 : Mem), 9 - p1 = n → p1 ≤ 9 → frL μ μ1 → nIs μ1 ((mA1 μ j k ++ mA2 μ j k ++ mBs μ j k 9 0) ++ mDs μ j k p1 0) → XJ G (xA G) 6 p l e (xr 3) s m args below meth c 0 0 (MQ below (xQ G (fun rr μ' => rr = none ∧ nIs μ' (mChn μ j k) ∧ frL μ μ')) args s 0 0 (xA G)) 138 [some (.inr (24, 0)), some (.inl (nI j)), some (.inl (nI k)), some (.inl (kdM k)), some (.inl (nI (p1 + 1))), none] [] μ1 := by
    intro hk4 n
    induction n using Nat.strongRecOn with
    | _ n ih =>
    intro p1 μ1 hn hp1 hfr hc
    refine xj_iload E d_X10_build_138 rfl ?_
    refine xj_bipush (v := 9) E d_X10_build_140 (by decide) ?_
    refine xj_icmp_gt (tgt := 245) E d_X10_build_142 (by decide) (fun h142 => ?_) (fun h142 => ?_)
    · have hk8 : p1 = 9 := by
        have := (nI_ltI (a := 9) (b := p1 + 1) (by omega) (by omega)).mp h142
        omega
      subst hk8
      exact sE _ _ hfr (by rw [if_pos hk4]; exact hc)
    have hlt : p1 < 9 := by
      have := Nat.not_lt.mp (fun q => h142 (nI_lt (a := 9) (b := p1 + 1) q (by omega)))
      omega
    refine xj_iload_n E d_X10_build_145 rfl ?_
    refine xj_iconst (v := 4) E d_X10_build_146 (by decide) ?_
    refine xj_icmp_ge (tgt := 245) E d_X10_build_147 (by decide) (fun h147 => absurd h147 (nI_ge (b := 4) hk4 (by omega))) (fun h147 => ?_)
    refine xj_iconst (v := 0) E d_X10_build_150 (by decide) ?_
    refine xj_istore E d_X10_build_151 (by decide) rfl ?_
    refine lpd2 hk4 p1 (mnd μ) 0 μ1 hlt (by omega) (by omega) hfr hc (fun μ2 hfr2 hc2 => ?_)
    refine xj_iinc (v := nI (p1 + 1 + 1)) E d_X10_build_239 rfl (nI_inc (p1 + 1)) rfl ?_
    refine xj_goto (tgt := 138) E d_X10_build_242 (by decide) ?_
    exact ih (9 - (p1 + 1)) (by omega) (p1 + 1) _ rfl (by omega) hfr2 (by unfold mDs; rw [← sel_next]; exact hc2)
  have sD : ∀ (μ1 : Mem) (x : Option XV), frL μ μ1 → nIs μ1 (mA1 μ j k ++ mA2 μ j k ++ mBs μ j k 9 0) → XJ G (xA G) 6 p l e (xr 3) s m args below meth c 0 0 (MQ below (xQ G (fun rr μ' => rr = none ∧ nIs μ' (mChn μ j k) ∧ frL μ μ')) args s 0 0 (xA G)) 135 [some (.inr (24, 0)), some (.inl (nI j)), some (.inl (nI k)), some (.inl (kdM k)), x, none] [] μ1 := by
    intro μ1 x hfr hc
    by_cases hk4 : k < 4
    · refine xj_iconst (v := 1) E d_X10_build_135 (by decide) ?_
      refine xj_istore E d_X10_build_136 (by decide) rfl ?_
      exact lpd1 hk4 9 0 μ1 rfl (by omega) hfr (by unfold mDs; rw [sel_0]; simpa using hc)
    · refine xj_iconst (v := 1) E d_X10_build_135 (by decide) ?_
      refine xj_istore E d_X10_build_136 (by decide) rfl ?_
      refine xj_iload E d_X10_build_138 rfl ?_
      refine xj_bipush (v := 9) E d_X10_build_140 (by decide) ?_
      refine xj_icmp_gt (tgt := 245) E d_X10_build_142 (by decide) (fun h142 => absurd h142 (by decide)) (fun h142 => ?_)
      refine xj_iload_n E d_X10_build_145 rfl ?_
      refine xj_iconst (v := 4) E d_X10_build_146 (by decide) ?_
      refine xj_icmp_ge (tgt := 245) E d_X10_build_147 (by decide) (fun h147 => ?_) (fun h147 => absurd (nI_le (a := 4) (b := k) (by omega) (by omega)) h147)
      exact sE _ _ hfr (by rw [if_neg hk4, List.append_nil]; exact hc)
  have lpb2 : ∀ (fl : PL) (p1 n i : Nat) (μ1 : Mem), (∀ t v, (t, v) ∈ fl ↔ mFP μ j k t v) → fl.length ≤ 40 → (∀ q, q ∈ fl → q.1 ≤ 1000) → p1 < 9 → mni μ - i = n → i ≤ mni μ → frL μ μ1 → fIs μ1 fl → nIs μ1 ((mA1 μ j k ++ mA2 μ j k) ++ mBs μ j k p1 i) → (∀ μ2, frL μ μ2 → fIs μ2 fl → nIs μ2 ((mA1 μ j k ++ mA2 μ j k) ++ mBs μ j k p1 (mni μ)) → XJ G (xA G) 6 p l e (xr 3) s m args below meth c 0 0 (MQ below (xQ G (fun rr μ' => rr = none ∧ nIs μ' (mChn μ j k) ∧ frL μ μ')) args s 0 0 (xA G)) 129 [some (.inr (24, 0)), some (.inl (nI j)), some (.inl (nI k)), some (.inl (kdM k)), some (.inl (nI (p1 + 1))), none] [] μ2) → XJ G (xA G) 6 p l e (xr 3) s m args below meth c 0 0 (MQ below (xQ G (fun rr μ' => rr = none ∧ nIs μ' (mChn μ j k) ∧ frL μ μ')) args s 0 0 (xA G)) 86 [some (.inr (24, 0)), some (.inl (nI j)), some (.inl (nI k)), some (.inl (kdM k)), some (.inl (nI (p1 + 1))), some (.inl (nI i))] [] μ1 := by
    intro fl p1 n
    induction n using Nat.strongRecOn with
    | _ n ih =>
    intro i μ1 hfp hfl hfy hp1 hn hi hfr hf hc hx
    have hd := hfr.d
    have e2 : μ1 24 0 7 = nI (mni μ) := (hd.2 7 (by decide)).trans hw.2.1.1
    have hlm := mBs_len hw (j := j) (k := k) (p := p1) (i := i) (by omega) hi (Or.inl hp1)
    have hll : ((mA1 μ j k ++ mA2 μ j k) ++ mBs μ j k p1 i).length ≤ 16 := by simp only [List.length_append]; omega
    refine xj_iload E d_X10_build_86 rfl ?_
    refine xj_aload_n E d_X10_build_88 rfl ?_
    refine xj_geti E fl_X10_103 (by decide) rfl (by decide) rfl d_X10_build_89 ?_
    refine xj_icmp_ge (tgt := 129) E d_X10_build_92 (by decide) (fun h92 => ?_) (fun h92 => ?_)
    · have hk8 : i = mni μ := by
        have := ge_nI (b := i) (by rw [← e2]; exact h92) (by omega) (by omega)
        omega
      subst hk8
      refine xj_forget 5 ?_
      exact hx _ hfr hf hc
    have hlt : i < mni μ := ng_nI (b := i) (by rw [← e2]; exact h92) (by omega) (by omega)
    have hin : vp_in (nI i) 8 := in_nI (by omega) (by omega)
    have hci : (nI i).toNatClampNeg = i := cl_nI (by omega)
    have e38 := hd.1 38 (by decide)
    have e39 := hd.1 39 (by decide)
    refine xj_aload_n E d_X10_build_95 rfl ?_
    refine xj_geta E fl_X10_23 (by decide) rfl (by decide) rfl d_X10_build_96 ?_
    refine xj_iload E d_X10_build_99 rfl ?_
    refine xj_iald E (by decide) hin d_X10_build_101 ?_
    refine xj_iload E d_X10_build_102 rfl ?_
    refine xj_icmp_ne (tgt := 123) E d_X10_build_104 (by decide) (fun h104 => ?_) (fun h104 => ?_)
    · refine xj_iinc (v := nI (i + 1)) E d_X10_build_123 rfl (nI_inc i) rfl ?_
      refine xj_goto (tgt := 86) E d_X10_build_126 (by decide) ?_
      first
        | (refine ih (mni μ - (i + 1)) (by omega) (i + 1) _ hfp hfl hfy hp1 rfl (by omega) ((hfr.tr hfr2.f.l).tr hfr3.u) hf3 ?_ hx
           unfold mBs
           by_cases z : μ 39 0 i &&& kdM k = 0
           · rw [if_pos z] at hc3
             have hbd : bdM μ (mFP μ j k) (kdM k) p1 i = false := by unfold bdM; simp [z]
             rw [sel_no hbd]
             exact hc3
           · rw [if_neg z] at hc3
             have hbd : bdM μ (mFP μ j k) (kdM k) p1 i = true := by
               unfold bdM
               simp only [Bool.and_eq_true, decide_eq_true_eq]
               rw [hci, e38] at h104
               exact ⟨h104, z, b10n h113⟩
             rw [sel_yes hbd, List.map_append, ← List.append_assoc]
             exact hc3)
        | (refine ih (mni μ - (i + 1)) (by omega) (i + 1) _ hfp hfl hfy hp1 rfl (by omega) (hfr.tr hfr2.f.l) hf2 ?_ hx
           unfold mBs
           have hbd : bdM μ (mFP μ j k) (kdM k) p1 i = false := by unfold bdM; rw [b10 h113]; simp
           rw [sel_no hbd]
           exact hc2)
        | (refine ih (mni μ - (i + 1)) (by omega) (i + 1) _ hfp hfl hfy hp1 rfl (by omega) hfr hf ?_ hx
           unfold mBs
           have hbd : bdM μ (mFP μ j k) (kdM k) p1 i = false := by
             rw [hci, e38] at h104
             unfold bdM; simp [h104]
           rw [sel_no hbd]
           exact hc)
    refine xj_aload_n E d_X10_build_107 rfl ?_
    refine xj_iload E d_X10_build_108 rfl ?_
    refine xj_callV E (k_X10_isBound l G hI i (mnt μ) fl _ (by omega) (by rw [hd.typ]; exact hw.1) (by rw [hd.row]; exact hw.2.2.2.2.1 i hlt) hf hfl hfy) cw_X10_162 cv_X10_isBound (by decide) rfl rfl rfl ⟨by decide, by decide⟩ (Nat.le_of_ble_eq_true rfl) d_X10_build_110 ⟨Nat.zero_le _, Nat.zero_le _⟩ (fun r110 μ110 ho110 hp110 => ?_)
    rw [hd.nb, hd.pair, e38] at hp110
    obtain ⟨rfl, hfr2⟩ := hp110
    have hf2 : fIs μ110 fl := hf.keep (hfr2.2 0 27 (by decide)) (hfr2.1 58 (by decide) (by decide)) (hfr2.1 59 (by decide) (by decide))
    have hc2 : nIs μ110 ((mA1 μ j k ++ mA2 μ j k) ++ mBs μ j k p1 i) := hc.keep (hfr2.2 0 30 (by decide)) (hfr2.1 61 (by decide) (by decide))
    have hbb : bq (¬ μ 38 0 i = 0 ∧ 0 < mnb μ i ∧ ∀ t v, mPair μ i t v → (t, v) ∈ fl) = bq (0 < mnb μ i ∧ ∀ t v, mPair μ i t v → mFP μ j k t v) := by
      simp only [hfp]
      have hz : ¬ μ 38 0 i = 0 := by
        rw [hci, e38] at h104
        rw [h104]
        exact nI_nz (by omega) (by omega)
      simp only [hz, not_false_eq_true, true_and]
    rw [hbb] at ho110 ⊢
    refine xj_if_eq (tgt := 123) E d_X10_build_113 (by decide) (fun h113 => ?_) (fun h113 => ?_)
    · refine xj_iinc (v := nI (i + 1)) E d_X10_build_123 rfl (nI_inc i) rfl ?_
      refine xj_goto (tgt := 86) E d_X10_build_126 (by decide) ?_
      first
        | (refine ih (mni μ - (i + 1)) (by omega) (i + 1) _ hfp hfl hfy hp1 rfl (by omega) ((hfr.tr hfr2.f.l).tr hfr3.u) hf3 ?_ hx
           unfold mBs
           by_cases z : μ 39 0 i &&& kdM k = 0
           · rw [if_pos z] at hc3
             have hbd : bdM μ (mFP μ j k) (kdM k) p1 i = false := by unfold bdM; simp [z]
             rw [sel_no hbd]
             exact hc3
           · rw [if_neg z] at hc3
             have hbd : bdM μ (mFP μ j k) (kdM k) p1 i = true := by
               unfold bdM
               simp only [Bool.and_eq_true, decide_eq_true_eq]
               rw [hci, e38] at h104
               exact ⟨h104, z, b10n h113⟩
             rw [sel_yes hbd, List.map_append, ← List.append_assoc]
             exact hc3)
        | (refine ih (mni μ - (i + 1)) (by omega) (i + 1) _ hfp hfl hfy hp1 rfl (by omega) (hfr.tr hfr2.f.l) hf2 ?_ hx
           unfold mBs
           have hbd : bdM μ (mFP μ j k) (kdM k) p1 i = false := by unfold bdM; rw [b10 h113]; simp
           rw [sel_no hbd]
           exact hc2)
        | (refine ih (mni μ - (i + 1)) (by omega) (i + 1) _ hfp hfl hfy hp1 rfl (by omega) hfr hf ?_ hx
           unfold mBs
           have hbd : bdM μ (mFP μ j k) (kdM k) p1 i = false := by
             rw [hci, e38] at h104
             unfold bdM; simp [h104]
           rw [sel_no hbd]
           exact hc)
    refine xj_aload_n E d_X10_build_116 rfl ?_
    refine xj_iload E d_X10_build_117 rfl ?_
    refine xj_iload_n E d_X10_build_119 rfl ?_
    refine xj_callV E (k_X10_link l G hI i (kdM k) ((mA1 μ j k ++ mA2 μ j k) ++ mBs μ j k p1 i) _ (by omega) hc2 (by omega)) cw_X10_153 cv_X10_link (by decide) rfl rfl rfl ⟨by decide, by decide⟩ (Nat.le_of_ble_eq_true rfl) d_X10_build_120 ⟨Nat.zero_le _, Nat.zero_le _⟩ (fun r120 μ120 ho120 hp120 => ?_)
    obtain ⟨rfl, hc3, hfr3⟩ := hp120
    rw [hfr2.1 39 (by decide) (by decide), e39] at hc3
    have hf3 : fIs μ120 fl := hf2.keep (hfr3.2 0 27 (by decide)) (hfr3.1 58 (by decide) (by decide)) (hfr3.1 59 (by decide) (by decide))
    refine xj_iinc (v := nI (i + 1)) E d_X10_build_123 rfl (nI_inc i) rfl ?_
    refine xj_goto (tgt := 86) E d_X10_build_126 (by decide) ?_
    first
      | (refine ih (mni μ - (i + 1)) (by omega) (i + 1) _ hfp hfl hfy hp1 rfl (by omega) ((hfr.tr hfr2.f.l).tr hfr3.u) hf3 ?_ hx
         unfold mBs
         by_cases z : μ 39 0 i &&& kdM k = 0
         · rw [if_pos z] at hc3
           have hbd : bdM μ (mFP μ j k) (kdM k) p1 i = false := by unfold bdM; simp [z]
           rw [sel_no hbd]
           exact hc3
         · rw [if_neg z] at hc3
           have hbd : bdM μ (mFP μ j k) (kdM k) p1 i = true := by
             unfold bdM
             simp only [Bool.and_eq_true, decide_eq_true_eq]
             rw [hci, e38] at h104
             exact ⟨h104, z, b10n h113⟩
           rw [sel_yes hbd, List.map_append, ← List.append_assoc]
           exact hc3)
      | (refine ih (mni μ - (i + 1)) (by omega) (i + 1) _ hfp hfl hfy hp1 rfl (by omega) (hfr.tr hfr2.f.l) hf2 ?_ hx
         unfold mBs
         have hbd : bdM μ (mFP μ j k) (kdM k) p1 i = false := by unfold bdM; rw [b10 h113]; simp
         rw [sel_no hbd]
         exact hc2)
      | (refine ih (mni μ - (i + 1)) (by omega) (i + 1) _ hfp hfl hfy hp1 rfl (by omega) hfr hf ?_ hx
         unfold mBs
         have hbd : bdM μ (mFP μ j k) (kdM k) p1 i = false := by
           rw [hci, e38] at h104
           unfold bdM; simp [h104]
         rw [sel_no hbd]
         exact hc)
  have lpb1 : ∀ (fl : PL) (n p1 : Nat) (μ1 : Mem), (∀ t v, (t, v) ∈ fl ↔ mFP μ j k t v) → fl.length ≤ 40 → (∀ q, q ∈ fl → q.1 ≤ 1000) → 9 - p1 = n → p1 ≤ 9 → frL μ μ1 → fIs μ1 fl → nIs μ1 ((mA1 μ j k ++ mA2 μ j k) ++ mBs μ j k p1 0) → XJ G (xA G) 6 p l e (xr 3) s m args below meth c 0 0 (MQ below (xQ G (fun rr μ' => rr = none ∧ nIs μ' (mChn μ j k) ∧ frL μ μ')) args s 0 0 (xA G)) 76 [some (.inr (24, 0)), some (.inl (nI j)), some (.inl (nI k)), some (.inl (kdM k)), some (.inl (nI (p1 + 1))), none] [] μ1 := by
    intro fl n
    induction n using Nat.strongRecOn with
    | _ n ih =>
    intro p1 μ1 hfp hfl hfy hn hp1 hfr hf hc
    refine xj_iload E d_X10_build_76 rfl ?_
    refine xj_bipush (v := 9) E d_X10_build_78 (by decide) ?_
    refine xj_icmp_gt (tgt := 135) E d_X10_build_80 (by decide) (fun h80 => ?_) (fun h80 => ?_)
    · have hk8 : p1 = 9 := by
        have := (nI_ltI (a := 9) (b := p1 + 1) (by omega) (by omega)).mp h80
        omega
      subst hk8
      exact sD _ _ hfr hc
    have hlt : p1 < 9 := by
      have := Nat.not_lt.mp (fun q => h80 (nI_lt (a := 9) (b := p1 + 1) q (by omega)))
      omega
    refine xj_iconst (v := 0) E d_X10_build_83 (by decide) ?_
    refine xj_istore E d_X10_build_84 (by decide) rfl ?_
    refine lpb2 fl p1 (mni μ) 0 μ1 hfp hfl hfy hlt (by omega) (by omega) hfr hf hc (fun μ2 hfr2 hf2 hc2 => ?_)
    refine xj_iinc (v := nI (p1 + 1 + 1)) E d_X10_build_129 rfl (nI_inc (p1 + 1)) rfl ?_
    refine xj_goto (tgt := 76) E d_X10_build_132 (by decide) ?_
    exact ih (9 - (p1 + 1)) (by omega) (p1 + 1) _ hfp hfl hfy rfl (by omega) hfr2 hf2 (by unfold mBs; rw [← sel_next]; exact hc2)
  have sC : ∀ (μ1 : Mem), frL μ μ1 → nIs μ1 (mA1 μ j k ++ mA2 μ j k) → XJ G (xA G) 6 p l e (xr 3) s m args below meth c 0 0 (MQ below (xQ G (fun rr μ' => rr = none ∧ nIs μ' (mChn μ j k) ∧ frL μ μ')) args s 0 0 (xA G)) 67 [some (.inr (24, 0)), some (.inl (nI j)), some (.inl (nI k)), some (.inl (kdM k)), none, none] [] μ1 := by
    intro μ1 hfr hc
    have hd := hfr.d
    refine xj_aload_n E d_X10_build_67 rfl ?_
    refine xj_iload_n E d_X10_build_68 rfl ?_
    refine xj_iload_n E d_X10_build_69 rfl ?_
    refine xj_callV E (k_X10_force l G hI j k _ (hd.wf hw) (by rw [hd.np]; exact hj) hk7) cw_X10_159 cv_X10_force (by decide) rfl rfl rfl ⟨by decide, by decide⟩ (Nat.le_of_ble_eq_true rfl) d_X10_build_70 ⟨Nat.zero_le _, Nat.zero_le _⟩ (fun r70 μ70 ho70 hp70 => ?_)
    obtain ⟨rfl, fl, hf, hfp, hfl, hfy, hfr2⟩ := hp70
    rw [hd.fp] at hfp
    have hc2 : nIs μ70 (mA1 μ j k ++ mA2 μ j k) := hc.keep (hfr2.2 0 30 (by decide)) (hfr2.1 61 (by decide) (by decide))
    refine xj_iconst (v := 1) E d_X10_build_73 (by decide) ?_
    refine xj_istore E d_X10_build_74 (by decide) rfl ?_
    exact lpb1 fl 9 0 _ hfp hfl hfy rfl (by omega) (hfr.tr hfr2.l) hf (by unfold mBs; rw [sel_0]; simpa using hc2)
  have sB : ∀ (μ1 : Mem), frL μ μ1 → nIs μ1 (mA1 μ j k) → XJ G (xA G) 6 p l e (xr 3) s m args below meth c 0 0 (MQ below (xQ G (fun rr μ' => rr = none ∧ nIs μ' (mChn μ j k) ∧ frL μ μ')) args s 0 0 (xA G)) 49 [some (.inr (24, 0)), some (.inl (nI j)), some (.inl (nI k)), some (.inl (kdM k)), none, none] [] μ1 := by
    intro μ1 hfr hc
    have hd := hfr.d
    refine xj_iload_n E d_X10_build_49 rfl ?_
    refine xj_iconst (v := 4) E d_X10_build_50 (by decide) ?_
    refine xj_icmp_ge (tgt := 67) E d_X10_build_51 (by decide) (fun h51 => ?_) (fun h51 => ?_)
    · first
        | exact sC _ (hfr.tr hfr2.u) (by unfold mA2; rw [if_pos hk4]; exact hc2)
        | exact sC _ hfr (by unfold mA2; rw [if_neg (fun q => nI_ge (b := 4) q (by omega) h51), List.append_nil]; exact hc)
    have hk4 : k < 4 := ng_nI (a := 4) h51 (by omega) (by omega)
    have hq1 := (hw.2.2.2.2.2 (5 * j + 1 + k) (by omega)).2
    rw [rq_m hk4] at hq1
    refine xj_aload_n E d_X10_build_54 rfl ?_
    refine xj_bipush (v := 12) E d_X10_build_55 (by decide) ?_
    refine xj_iconst (v := 4) E d_X10_build_57 (by decide) ?_
    refine xj_iload_n E d_X10_build_58 rfl ?_
    refine xj_imul E d_X10_build_59 ?_
    refine xj_iadd E d_X10_build_60 ?_
    refine xj_iload_n E d_X10_build_61 rfl ?_
    refine xj_iadd E d_X10_build_62 ?_
    refine xj_iload_n E d_X10_build_63 rfl ?_
    refine xj_st (st' := [.inl (kdM k), .inl (nI (12 + 4 * j + k)), .inr (24, 0)]) (by rw [← nI_add, ← nI_add, ← pk_mul]; rfl) ?_
    refine xj_callV E (k_X10_linkList l G hI (12 + 4 * j + k) (mni μ) (kdM k) (mA1 μ j k) _ (by omega) hw.2.1.2 (by rw [hd.nl, hd.1 52 (by decide), hd.1 53 (by decide)]; exact hq1) hc hl1) cw_X10_156 cv_X10_linkList (by decide) rfl rfl rfl ⟨by decide, by decide⟩ (Nat.le_of_ble_eq_true rfl) d_X10_build_64 ⟨Nat.zero_le _, Nat.zero_le _⟩ (fun r64 μ64 ho64 hp64 => ?_)
    obtain ⟨rfl, hc2, hfr2⟩ := hp64
    rw [hd.nl, hd.ml] at hc2
    first
      | exact sC _ (hfr.tr hfr2.u) (by unfold mA2; rw [if_pos hk4]; exact hc2)
      | exact sC _ hfr (by unfold mA2; rw [if_neg (fun q => nI_ge (b := 4) q (by omega) h51), List.append_nil]; exact hc)
  have sA : ∀ (μ1 : Mem), frL μ μ1 → nIs μ1 [] → ¬ (k < 4 ∧ ¬ μ 48 0 (4 * j + k) &&& 2 = 0) → XJ G (xA G) 6 p l e (xr 3) s m args below meth c 0 0 (MQ below (xQ G (fun rr μ' => rr = none ∧ nIs μ' (mChn μ j k) ∧ frL μ μ')) args s 0 0 (xA G)) 40 [some (.inr (24, 0)), some (.inl (nI j)), some (.inl (nI k)), some (.inl (kdM k)), none, none] [] μ1 := by
    intro μ1 hfr hc hno
    have hd := hfr.d
    have hq0 := (hw.2.2.2.2.2 (5 * j) (by omega)).2
    rw [rq_own] at hq0
    refine xj_aload_n E d_X10_build_40 rfl ?_
    refine xj_bipush (v := 8) E d_X10_build_41 (by decide) ?_
    refine xj_iload_n E d_X10_build_43 rfl ?_
    refine xj_iadd E d_X10_build_44 ?_
    refine xj_iload_n E d_X10_build_45 rfl ?_
    refine xj_st (st' := [.inl (kdM k), .inl (nI (8 + j)), .inr (24, 0)]) (by rw [← nI_add]; rfl) ?_
    refine xj_callV E (k_X10_linkList l G hI (8 + j) (mni μ) (kdM k) [] _ (by omega) hw.2.1.2 (by rw [hd.nl, hd.1 52 (by decide), hd.1 53 (by decide)]; exact hq0) hc (by simp)) cw_X10_156 cv_X10_linkList (by decide) rfl rfl rfl ⟨by decide, by decide⟩ (Nat.le_of_ble_eq_true rfl) d_X10_build_46 ⟨Nat.zero_le _, Nat.zero_le _⟩ (fun r46 μ46 ho46 hp46 => ?_)
    obtain ⟨rfl, hc2, hfr2⟩ := hp46
    rw [hd.nl, hd.ml, List.nil_append] at hc2
    exact sB _ (hfr.tr hfr2.u) (by unfold mA1; rw [if_neg hno]; exact hc2)
  have s0 : XJ G (xA G) 6 p l e (xr 3) s m args below meth c 0 0 (MQ below (xQ G (fun rr μ' => rr = none ∧ nIs μ' (mChn μ j k) ∧ frL μ μ')) args s 0 0 (xA G)) 15 [some (.inr (24, 0)), some (.inl (nI j)), some (.inl (nI k)), some (.inl (kdM k)), none, none] [] μ := by
    have fr0 : frL μ (mset μ 24 0 30 0) := frG_o (by decide)
    have hc0 : nIs (mset μ 24 0 30 0) [] := ⟨mset_at _ _ _ _ _, fun k x hk => by simp at hk⟩
    refine xj_aload_n E d_X10_build_15 rfl ?_
    refine xj_iconst (v := 0) E d_X10_build_16 (by decide) ?_
    refine xj_put E fp_X10_150 (by decide) rfl (by decide) rfl (narrow_i _) d_X10_build_17 ?_
    refine xj_iload_n E d_X10_build_20 rfl ?_
    refine xj_iconst (v := 4) E d_X10_build_21 (by decide) ?_
    refine xj_icmp_ge (tgt := 40) E d_X10_build_22 (by decide) (fun h22 => ?_) (fun h22 => ?_)
    · first
        | exact sA _ fr0 hc0 (fun q => q.2 (by rw [cl_nI (by omega)] at h37; exact h37))
        | exact sA _ fr0 hc0 (fun q => nI_ge (b := 4) q.1 (by omega) h22)
    have hk4 : k < 4 := ng_nI (a := 4) h22 (by omega) (by omega)
    refine xj_aload_n E d_X10_build_25 rfl ?_
    refine xj_geta E fl_X10_47 (by decide) rfl (by decide) rfl d_X10_build_26 ?_
    refine xj_iconst (v := 4) E d_X10_build_29 (by decide) ?_
    refine xj_iload_n E d_X10_build_30 rfl ?_
    refine xj_imul E d_X10_build_31 ?_
    refine xj_iload_n E d_X10_build_32 rfl ?_
    refine xj_iadd E d_X10_build_33 ?_
    refine xj_st (st' := [.inl (nI (4 * j + k)), .inr (48, 0)]) (by rw [← ix4]) ?_
    refine xj_iald E (by decide) (show vp_in (nI (4 * j + k)) 16 from in_nI (by omega) (by omega)) d_X10_build_34 ?_
    refine xj_iconst (v := 2) E d_X10_build_35 (by decide) ?_
    refine xj_iand E d_X10_build_36 ?_
    refine xj_if_ne (tgt := 49) E d_X10_build_37 (by decide) (fun h37 => ?_) (fun h37 => ?_)
    · refine sB _ fr0 ?_
      unfold mA1
      rw [if_pos ⟨hk4, fun q => h37 (by rw [cl_nI (by omega)]; exact q)⟩]
      exact hc0
    first
      | exact sA _ fr0 hc0 (fun q => q.2 (by rw [cl_nI (by omega)] at h37; exact h37))
      | exact sA _ fr0 hc0 (fun q => nI_ge (b := 4) q.1 (by omega) h22)
  refine xj_iload_n E d_X10_build_0 rfl ?_
  refine xj_iconst (v := 4) E d_X10_build_1 (by decide) ?_
  refine xj_icmp_ge (tgt := 9) E d_X10_build_2 (by decide) (fun h2 => ?_) (fun h2 => ?_)
  · refine xj_iconst (v := 1) E d_X10_build_9 (by decide) ?_
    refine xj_iload_n E d_X10_build_10 rfl ?_
    refine xj_iconst (v := 3) E d_X10_build_11 (by decide) ?_
    refine xj_isub E d_X10_build_12 ?_
    refine xj_ishl E d_X10_build_13 ?_
    refine xj_istore_n E d_X10_build_14 (by decide) rfl ?_
    first
      | (refine xj_loc (L' := [some (.inr (24, 0)), some (.inl (nI j)), some (.inl (nI k)), some (.inl (kdM k)), none, none]) (by unfold kdM; rw [if_neg (fun q => nI_ge (b := 4) q (by omega) h2)]; rfl) ?_
         exact s0)
      | (refine xj_loc (L' := [some (.inr (24, 0)), some (.inl (nI j)), some (.inl (nI k)), some (.inl (kdM k)), none, none]) (by unfold kdM; rw [if_pos (ng_nI (a := 4) h2 (by omega) (by omega))]; rfl) ?_
         exact s0)
  refine xj_iconst (v := 1) E d_X10_build_5 (by decide) ?_
  refine xj_goto (tgt := 14) E d_X10_build_6 (by decide) ?_
  refine xj_istore_n E d_X10_build_14 (by decide) rfl ?_
  first
    | (refine xj_loc (L' := [some (.inr (24, 0)), some (.inl (nI j)), some (.inl (nI k)), some (.inl (kdM k)), none, none]) (by unfold kdM; rw [if_neg (fun q => nI_ge (b := 4) q (by omega) h2)]; rfl) ?_
       exact s0)
    | (refine xj_loc (L' := [some (.inr (24, 0)), some (.inl (nI j)), some (.inl (nI k)), some (.inl (kdM k)), none, none]) (by unfold kdM; rw [if_pos (ng_nI (a := 4) h2 (by omega) (by omega))]; rfl) ?_
       exact s0)
