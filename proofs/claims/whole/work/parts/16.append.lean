/-! PURE: those i below n, by p in turn -/
def sel (bd : Nat → Nat → Bool) (n p i : Nat) : List Nat := (List.range p).flatMap (fun p' => (List.range n).filter (bd p')) ++ (List.range i).filter (bd p)
theorem sel_0 (bd : Nat → Nat → Bool) (n : Nat) : sel bd n 0 0 = [] := rfl
theorem sel_yes {bd : Nat → Nat → Bool} {n p i : Nat} (h : bd p i = true) : sel bd n p (i + 1) = sel bd n p i ++ [i] := by
  unfold sel
  rw [List.range_succ (n := i), List.filter_append, List.append_assoc]
  simp [h]
theorem sel_no {bd : Nat → Nat → Bool} {n p i : Nat} (h : bd p i = false) : sel bd n p (i + 1) = sel bd n p i := by
  unfold sel
  rw [List.range_succ (n := i), List.filter_append]
  simp [h]
theorem sel_next (bd : Nat → Nat → Bool) (n p : Nat) : sel bd n p n = sel bd n (p + 1) 0 := by
  unfold sel
  rw [List.range_succ (n := p), List.flatMap_append]
  simp
theorem sel_mem {bd : Nat → Nat → Bool} {n p i j : Nat} : j ∈ sel bd n p i ↔ (∃ p', p' < p ∧ j < n ∧ bd p' j = true) ∨ (j < i ∧ bd p j = true) := by
  unfold sel
  simp only [List.mem_append, List.mem_flatMap, List.mem_range, List.mem_filter]
theorem sel_nodup {bd : Nat → Nat → Bool} {n : Nat} (hu : ∀ p p' i, p < 9 → p' < 9 → bd p i = true → bd p' i = true → p = p') : ∀ p, p ≤ 9 → ∀ i, i ≤ n → (p < 9 ∨ i = 0) → (sel bd n p i).Nodup := by
  intro p
  induction p with
  | zero =>
    intro _ i
    induction i with
    | zero => intro _ _; exact List.nodup_nil
    | succ i ih =>
      intro hi _
      have ih := ih (by omega) (Or.inl (by omega))
      cases hb : bd 0 i with
      | false => rw [sel_no hb]; exact ih
      | true =>
        rw [sel_yes hb]
        refine List.nodup_append.mpr ⟨ih, by simp, fun a ha b hb' e => ?_⟩
        rw [List.mem_singleton.mp hb'] at e
        subst e
        rcases sel_mem.mp ha with ⟨p', h1, -⟩ | ⟨h1, -⟩ <;> omega
  | succ p ihp =>
    intro hp i
    induction i with
    | zero => intro _ _; rw [← sel_next]; exact ihp (by omega) n (Nat.le_refl _) (Or.inl (by omega))
    | succ i ih =>
      intro hi hq
      have hq : p + 1 < 9 := by omega
      have ih := ih (by omega) (Or.inl hq)
      cases hb : bd (p + 1) i with
      | false => rw [sel_no hb]; exact ih
      | true =>
        rw [sel_yes hb]
        refine List.nodup_append.mpr ⟨ih, by simp, fun a ha b hb' e => ?_⟩
        rw [List.mem_singleton.mp hb'] at e
        subst e
        rcases sel_mem.mp ha with ⟨p', h1, h2, h3⟩ | ⟨h1, -⟩
        · have := hu p' (p + 1) a (by omega) (by omega) h3 hb
          omega
        · omega
theorem sel_len {bd : Nat → Nat → Bool} {n p i : Nat} (hu : ∀ p p' i, p < 9 → p' < 9 → bd p i = true → bd p' i = true → p = p') (hp : p ≤ 9) (hi : i ≤ n) (hq : p < 9 ∨ i = 0) : (sel bd n p i).length ≤ n := by
  have := nodup_len (c := List.range n) (sel_nodup hu p hp i hi hq) (fun x hx => List.mem_range.mpr (by
    rcases sel_mem.mp hx with ⟨p', -, h, -⟩ | ⟨h, -⟩ <;> omega))
  simpa using this
theorem sel_lt {bd : Nat → Nat → Bool} {n p i : Nat} (hu : ∀ p p' i, p < 9 → p' < 9 → bd p i = true → bd p' i = true → p = p') (hp : p < 9) (hi : i < n) (hb : bd p i = true) : (sel bd n p i).length < n := by
  have := sel_len (n := n) (i := i + 1) hu (by omega) hi (Or.inl hp)
  rw [sel_yes hb] at this
  simp at this
  omega
theorem b10 {b : Bool} (h : (if b = true then (1 : Int32) else 0) = 0) : b = false := by
  cases b
  · rfl
  · exact absurd h i1_0
theorem b10n {b : Bool} (h : ¬ (if b = true then (1 : Int32) else 0) = 0) : b = true := by
  cases b
  · exact absurd rfl h
  · rfl
/-- the elements of interceptors and decorators, with their behaviours -/
def eI (μ : Mem) (i : Nat) : Int32 × Int32 := (nI i, μ 8 i 2)
def eD (μ : Mem) (d : Nat) : Int32 × Int32 := (nI (16 + d), μ 10 d 3)
/-- those of a list that take part -/
def xLs (μ : Mem) (q : Nat) (kind : Int32) : Nat → List Nat
  | 0 => []
  | n + 1 => if μ 8 (μ 14 q n).toNatClampNeg 1 &&& kind = 0 then xLs μ q kind n else xLs μ q kind n ++ [(μ 14 q n).toNatClampNeg]
theorem xLs_len (μ : Mem) (q : Nat) (kind : Int32) : ∀ n, (xLs μ q kind n).length ≤ n
  | 0 => Nat.le_refl _
  | n + 1 => by
    have := xLs_len μ q kind n
    unfold xLs
    split
    · omega
    · simp; exact this
noncomputable def bdX (μ : Mem) (FP : Nat → Int32 → Prop) (kind : Int32) (p i : Nat) : Bool := decide (μ 8 i 0 = nI (p + 1)) && (decide (¬ μ 8 i 1 &&& kind = 0) && bq (0 < xnb μ (i + 1) ∧ ∀ t v, xPair μ (i + 1) t v → FP t v))
theorem bdX_u (μ : Mem) (FP : Nat → Int32 → Prop) (kind : Int32) : ∀ p p' i, p < 9 → p' < 9 → bdX μ FP kind p i = true → bdX μ FP kind p' i = true → p = p' := by
  intro p p' i hp hp' h1 h2
  unfold bdX at h1 h2
  simp only [Bool.and_eq_true, decide_eq_true_eq] at h1 h2
  have := (nI_eq (by omega) (by omega)).mp (h1.1.symm.trans h2.1)
  omega
def bdD (μ : Mem) (ot y : Int32) (p d : Nat) : Bool := decide (μ 10 d 0 = nI (p + 1)) && decide (¬ (ot >>> (μ 10 d 1 &&& 31)) &&& 1 = 0 ∧ ¬ (μ 10 d 2 >>> (y &&& 31)) &&& 1 = 0)
theorem bdD_u (μ : Mem) (ot y : Int32) : ∀ p p' i, p < 9 → p' < 9 → bdD μ ot y p i = true → bdD μ ot y p' i = true → p = p' := by
  intro p p' i hp hp' h1 h2
  unfold bdD at h1 h2
  simp only [Bool.and_eq_true, decide_eq_true_eq] at h1 h2
  have := (nI_eq (by omega) (by omega)).mp (h1.1.symm.trans h2.1)
  omega

set_option maxRecDepth 100000 in
set_option maxHeartbeats 4000000 in
/-- X9 appendListed -/
theorem k_X9_appendListed (l : Launch) (G : XG) (hI : XI G) (q : Nat) (kind : Int32) (l0 : List (Int32 × Int32)) (μ : Mem) (hw : xWF μ) (hq : q < 5 * xnp μ) (hch : xCh μ l0) (hl0 : l0.length ≤ 4) : XMet l G y_X9_appendListed c_X9_appendListed 5 none 1 [.inr (0, 0), .inr (13, q), .inl kind] μ (fun r μ' => r = none ∧ frB μ μ' ∧ xCh μ' (l0 ++ (xLs μ q kind (xnl μ q)).map (eI μ))) := by
  refine xj_met (by decide) hI (Nat.le_of_ble_eq_true rfl) ?_
  intro p e s m args below meth c E hr hlk
  have E : XE G (xA G) RX9 c_X9_appendListed 5 p s m args c := E
  refine xj_loc (L' := [some (.inr (0, 0)), some (.inr (13, q)), some (.inl kind), none, none]) rfl ?_
  have hnl := hw.2.2.2.2.2 q hq
  have hni := hw.2.1
  have lp : ∀ (Q : State → Prop) (n k : Nat) (μ1 : Mem), xnl μ q - k = n → k ≤ xnl μ q → frB μ μ1 → xCh μ1 (l0 ++ (xLs μ q kind k).map (eI μ)) → (∀ μ2, frB μ μ2 → xCh μ2 (l0 ++ (xLs μ q kind (xnl μ q)).map (eI μ)) → XJ G (xA G) 5 p l e (xr 1) s m args below meth c 0 0 Q 57 [some (.inr (0, 0)), some (.inr (13, q)), some (.inl kind), some (.inl (nI (xnl μ q))), none] [] μ2) → XJ G (xA G) 5 p l e (xr 1) s m args below meth c 0 0 Q 2 [some (.inr (0, 0)), some (.inr (13, q)), some (.inl kind), some (.inl (nI k)), none] [] μ1 := by
    intro Q n
    induction n using Nat.strongRecOn with
    | _ n ih =>
    intro k μ1 hn hk hfr hch hx
    have e13 : μ1 13 q 2 = nI (xnl μ q) := by rw [hfr.1 13 (by omega)]; exact hnl.2.1.1
    refine xj_iload_n E d_X9_appendListed_2 rfl ?_
    refine xj_aload_n E d_X9_appendListed_3 rfl ?_
    refine xj_geti E fl_X9_136 (by decide) rfl (by decide) rfl d_X9_appendListed_4 ?_
    refine xj_icmp_ge (tgt := 57) E d_X9_appendListed_7 (by decide) (fun h7 => ?_) (fun h7 => ?_)
    · have hk8 : k = xnl μ q := by
        have := ge_nI (b := k) (by rw [← e13]; exact h7) (by omega) (by omega)
        omega
      subst hk8
      exact hx _ hfr hch
    have hlt : k < xnl μ q := ng_nI (b := k) (by rw [← e13]; exact h7) (by omega) (by omega)
    obtain ⟨i, hi, hli⟩ := hnl.2.2 k hlt
    refine xj_aload_n E d_X9_appendListed_10 rfl ?_
    refine xj_geta E fl_X9_231 (by decide) rfl (by decide) rfl d_X9_appendListed_11 ?_
    refine xj_iload_n E d_X9_appendListed_14 rfl ?_
    refine xj_iald E (by decide) (show vp_in (nI k) 4 from in_nI (by omega) (by omega)) d_X9_appendListed_15 ?_
    refine xj_st (st' := [.inl (nI i)]) (by rw [cl_nI (by omega), hfr.1 14 (by omega), hli]; try rfl) ?_
    refine xj_istore E d_X9_appendListed_16 (by decide) rfl ?_
    refine xj_aload_n E d_X9_appendListed_18 rfl ?_
    refine xj_geta E fl_X9_18 (by decide) rfl (by decide) rfl d_X9_appendListed_19 ?_
    refine xj_iload E d_X9_appendListed_22 rfl ?_
    refine xj_aald E (by decide) rfl (show vp_in (nI i) 8 from in_nI (by omega) (by omega)) d_X9_appendListed_24 ?_
    refine xj_st (st' := [.inr (8, i)]) (by rw [cl_nI (by omega)]; try rfl) ?_
    refine xj_iload_n E d_X9_appendListed_25 rfl ?_
    refine xj_callV E (k_X6_takesPartIn l G hI i kind _) cw_X9_234 cv_X6_takesPartIn (by decide) rfl rfl rfl ⟨by decide, by decide⟩ (Nat.le_of_ble_eq_true rfl) d_X9_appendListed_26 ⟨by decide, by decide⟩ (fun r26 μ26 ho26 hp26 => ?_)
    obtain ⟨rfl, hm26⟩ := hp26
    refine xj_mem hm26 ?_
    refine xj_if_eq (tgt := 51) E d_X9_appendListed_29 (by decide) (fun h29 => ?_) (fun h29 => ?_)
    · refine xj_iinc (v := nI (k + 1)) E d_X9_appendListed_51 rfl (nI_inc k) rfl ?_
      refine xj_goto (tgt := 2) E d_X9_appendListed_54 (by decide) ?_
      refine xj_forget 4 ?_
      have hg : (μ 14 q k).toNatClampNeg = i := by rw [hli]; exact cl_nI (by omega)
      first
        | (refine ih (xnl μ q - (k + 1)) (by omega) (k + 1) _ rfl (by omega) (hfr.tr (frB_ch hfr2)) ?_ hx
           have hnz := b01n h29
           rw [hfr.1 8 (by omega)] at hnz hch2
           unfold xLs
           rw [hg, if_neg hnz, List.map_append, ← List.append_assoc]
           exact hch2)
        | (refine ih (xnl μ q - (k + 1)) (by omega) (k + 1) _ rfl (by omega) hfr ?_ hx
           have hz := b01 h29
           rw [hfr.1 8 (by omega)] at hz
           unfold xLs
           rw [hg, if_pos hz]
           exact hch)
    refine xj_aload_n E d_X9_appendListed_32 rfl ?_
    refine xj_geta E fl_X9_50 (by decide) rfl (by decide) rfl d_X9_appendListed_33 ?_
    refine xj_iload E d_X9_appendListed_36 rfl ?_
    refine xj_aload_n E d_X9_appendListed_38 rfl ?_
    refine xj_geta E fl_X9_18 (by decide) rfl (by decide) rfl d_X9_appendListed_39 ?_
    refine xj_iload E d_X9_appendListed_42 rfl ?_
    refine xj_aald E (by decide) rfl (show vp_in (nI i) 8 from in_nI (by omega) (by omega)) d_X9_appendListed_44 ?_
    refine xj_st (st' := [.inr (8, i), .inl (nI i), .inr (19, 0)]) (by rw [cl_nI (by omega)]; try rfl) ?_
    have hlen := xLs_len μ q kind k
    refine xj_geti E fl_X9_237 (by decide) rfl (by decide) rfl d_X9_appendListed_45 ?_
    refine xj_callV E (k_X2_add l G hI (nI i) _ (l0 ++ (xLs μ q kind k).map (eI μ)) _ hch (by simp; omega)) cw_X9_226 cv_X2_add (by decide) rfl rfl rfl ⟨by decide, by decide⟩ (Nat.le_of_ble_eq_true rfl) d_X9_appendListed_48 ⟨by decide, by decide⟩ (fun r48 μ48 ho48 hp48 => ?_)
    obtain ⟨rfl, hch2, hfr2⟩ := hp48
    refine xj_iinc (v := nI (k + 1)) E d_X9_appendListed_51 rfl (nI_inc k) rfl ?_
    refine xj_goto (tgt := 2) E d_X9_appendListed_54 (by decide) ?_
    refine xj_forget 4 ?_
    have hg : (μ 14 q k).toNatClampNeg = i := by rw [hli]; exact cl_nI (by omega)
    first
      | (refine ih (xnl μ q - (k + 1)) (by omega) (k + 1) _ rfl (by omega) (hfr.tr (frB_ch hfr2)) ?_ hx
         have hnz := b01n h29
         rw [hfr.1 8 (by omega)] at hnz hch2
         unfold xLs
         rw [hg, if_neg hnz, List.map_append, ← List.append_assoc]
         exact hch2)
      | (refine ih (xnl μ q - (k + 1)) (by omega) (k + 1) _ rfl (by omega) hfr ?_ hx
         have hz := b01 h29
         rw [hfr.1 8 (by omega)] at hz
         unfold xLs
         rw [hg, if_pos hz]
         exact hch)
  refine xj_iconst (v := 0) E d_X9_appendListed_0 (by decide) ?_
  refine xj_istore_n E d_X9_appendListed_1 (by decide) rfl ?_
  refine lp _ (xnl μ q) 0 μ (by omega) (by omega) (frB.rf μ) (by simpa [xLs] using hch) (fun μ2 hfr2 hch2 => ?_)
  exact xj_vret E hr hlk d_X9_appendListed_57 ⟨rfl, hfr2, hch2⟩

set_option maxRecDepth 100000 in
set_option maxHeartbeats 4000000 in
/-- X9 appendBound -/
theorem k_X9_appendBound (l : Launch) (G : XG) (hI : XI G) (kind : Int32) (FP : Nat → Int32 → Prop) (l0 : List (Int32 × Int32)) (μ : Mem) (hw : xWF μ) (hcf : ∀ i, i < xni μ → ¬ xConf μ (i + 1)) (hF : ∀ t, t < 8 → ∀ v, (¬ (dS μ 0).1 t = 0 ∧ (dS μ 0).2.1 t = v) ↔ FP t v) (hch : xCh μ l0) (hl0 : l0.length ≤ 8) : XMet l G y_X9_appendBound c_X9_appendBound 5 none 3 [.inr (0, 0), .inl kind] μ (fun r μ' => r = none ∧ frB μ μ' ∧ xCh μ' (l0 ++ (sel (bdX μ FP kind) (xni μ) 9 0).map (eI μ))) := by
  refine xj_met (by decide) hI (Nat.le_of_ble_eq_true rfl) ?_
  intro p e s m args below meth c E hr hlk
  have E : XE G (xA G) RX9 c_X9_appendBound 5 p s m args c := E
  refine xj_loc (L' := [some (.inr (0, 0)), some (.inl kind), none, none, none]) rfl ?_
  have hni := hw.2.1
  have lp2 : ∀ (Q : State → Prop) (p1 n i : Nat) (μ1 : Mem), p1 < 9 → xni μ - i = n → i ≤ xni μ → frB μ μ1 → xCh μ1 (l0 ++ (sel (bdX μ FP kind) (xni μ) p1 i).map (eI μ)) → (∀ μ2, frB μ μ2 → xCh μ2 (l0 ++ (sel (bdX μ FP kind) (xni μ) p1 (xni μ)).map (eI μ)) → XJ G (xA G) 5 p l e (xr 3) s m args below meth c 0 0 Q 75 [some (.inr (0, 0)), some (.inl kind), some (.inl (nI (p1 + 1))), none, none] [] μ2) → XJ G (xA G) 5 p l e (xr 3) s m args below meth c 0 0 Q 10 [some (.inr (0, 0)), some (.inl kind), some (.inl (nI (p1 + 1))), some (.inl (nI i)), none] [] μ1 := by
    intro Q p1 n
    induction n using Nat.strongRecOn with
    | _ n ih =>
    intro i μ1 hp1 hn hi hfr hch hx
    have e2 : μ1 0 0 2 = nI (xni μ) := by rw [hfr.1 0 (by omega)]; exact hni.1
    have e8 := hfr.1 8 (by omega)
    refine xj_iload_n E d_X9_appendBound_10 rfl ?_
    refine xj_aload_n E d_X9_appendBound_11 rfl ?_
    refine xj_geti E fl_X9_64 (by decide) rfl (by decide) rfl d_X9_appendBound_12 ?_
    refine xj_icmp_ge (tgt := 75) E d_X9_appendBound_15 (by decide) (fun h15 => ?_) (fun h15 => ?_)
    · have hk8 : i = xni μ := by
        have := ge_nI (b := i) (by rw [← e2]; exact h15) (by omega) (by omega)
        omega
      subst hk8
      refine xj_forget 3 ?_
      exact hx _ hfr hch
    have hlt : i < xni μ := ng_nI (b := i) (by rw [← e2]; exact h15) (by omega) (by omega)
    refine xj_aload_n E d_X9_appendBound_18 rfl ?_
    refine xj_geta E fl_X9_18 (by decide) rfl (by decide) rfl d_X9_appendBound_19 ?_
    refine xj_iload_n E d_X9_appendBound_22 rfl ?_
    refine xj_aald E (by decide) rfl (show vp_in (nI i) 8 from in_nI (by omega) (by omega)) d_X9_appendBound_23 ?_
    refine xj_st (st' := [.inr (8, i)]) (by rw [cl_nI (by omega)]; try rfl) ?_
    refine xj_astore E d_X9_appendBound_24 (by decide) rfl ?_
    refine xj_aload E d_X9_appendBound_26 rfl ?_
    refine xj_geti E fl_X9_240 (by decide) rfl (by decide) rfl d_X9_appendBound_28 ?_
    refine xj_iload_n E d_X9_appendBound_31 rfl ?_
    refine xj_icmp_ne (tgt := 69) E d_X9_appendBound_32 (by decide) (fun h32 => ?_) (fun h32 => ?_)
    · refine xj_iinc (v := nI (i + 1)) E d_X9_appendBound_69 rfl (nI_inc i) rfl ?_
      refine xj_goto (tgt := 10) E d_X9_appendBound_72 (by decide) ?_
      refine xj_forget 4 ?_
      first
        | (refine ih (xni μ - (i + 1)) (by omega) (i + 1) _ hp1 rfl (by omega) ((hfr.tr (frB_mcl _ S)).tr (frB_ch hfr2)) ?_ hx
           have hbd : bdX μ FP kind p1 i = true := by unfold bdX; rw [← e8]; simp only [Bool.and_eq_true, decide_eq_true_eq]; exact ⟨h32, b01n h41, b10n h53⟩
           rw [sel_yes hbd, List.map_append, ← List.append_assoc]
           have e9 : mcl μ1 1 S 8 i 2 = μ 8 i 2 := by rw [mcl_f ⟨by decide, by decide, by decide⟩, e8]
           rw [e9] at hch2
           exact hch2)
        | (refine ih (xni μ - (i + 1)) (by omega) (i + 1) _ hp1 rfl (by omega) (hfr.tr (frB_mcl _ S)) ?_ hx
           have hbd : bdX μ FP kind p1 i = false := by unfold bdX; rw [b10 h53]; simp
           rw [sel_no hbd]
           exact xCh_mcl hch)
        | (refine ih (xni μ - (i + 1)) (by omega) (i + 1) _ hp1 rfl (by omega) hfr ?_ hx
           have hz := b01 h41
           rw [e8] at hz
           have hbd : bdX μ FP kind p1 i = false := by unfold bdX; simp [hz]
           rw [sel_no hbd]
           exact hch)
        | (refine ih (xni μ - (i + 1)) (by omega) (i + 1) _ hp1 rfl (by omega) hfr ?_ hx
           rw [e8] at h32
           have hbd : bdX μ FP kind p1 i = false := by unfold bdX; simp [h32]
           rw [sel_no hbd]
           exact hch)
    refine xj_aload E d_X9_appendBound_35 rfl ?_
    refine xj_iload_n E d_X9_appendBound_37 rfl ?_
    refine xj_callV E (k_X6_takesPartIn l G hI i kind _) cw_X9_234 cv_X6_takesPartIn (by decide) rfl rfl rfl ⟨by decide, by decide⟩ (Nat.le_of_ble_eq_true rfl) d_X9_appendBound_38 ⟨by decide, by decide⟩ (fun r38 μ38 ho38 hp38 => ?_)
    obtain ⟨rfl, hm38⟩ := hp38
    refine xj_mem hm38 ?_
    refine xj_if_eq (tgt := 69) E d_X9_appendBound_41 (by decide) (fun h41 => ?_) (fun h41 => ?_)
    · refine xj_iinc (v := nI (i + 1)) E d_X9_appendBound_69 rfl (nI_inc i) rfl ?_
      refine xj_goto (tgt := 10) E d_X9_appendBound_72 (by decide) ?_
      refine xj_forget 4 ?_
      first
        | (refine ih (xni μ - (i + 1)) (by omega) (i + 1) _ hp1 rfl (by omega) ((hfr.tr (frB_mcl _ S)).tr (frB_ch hfr2)) ?_ hx
           have hbd : bdX μ FP kind p1 i = true := by unfold bdX; rw [← e8]; simp only [Bool.and_eq_true, decide_eq_true_eq]; exact ⟨h32, b01n h41, b10n h53⟩
           rw [sel_yes hbd, List.map_append, ← List.append_assoc]
           have e9 : mcl μ1 1 S 8 i 2 = μ 8 i 2 := by rw [mcl_f ⟨by decide, by decide, by decide⟩, e8]
           rw [e9] at hch2
           exact hch2)
        | (refine ih (xni μ - (i + 1)) (by omega) (i + 1) _ hp1 rfl (by omega) (hfr.tr (frB_mcl _ S)) ?_ hx
           have hbd : bdX μ FP kind p1 i = false := by unfold bdX; rw [b10 h53]; simp
           rw [sel_no hbd]
           exact xCh_mcl hch)
        | (refine ih (xni μ - (i + 1)) (by omega) (i + 1) _ hp1 rfl (by omega) hfr ?_ hx
           have hz := b01 h41
           rw [e8] at hz
           have hbd : bdX μ FP kind p1 i = false := by unfold bdX; simp [hz]
           rw [sel_no hbd]
           exact hch)
        | (refine ih (xni μ - (i + 1)) (by omega) (i + 1) _ hp1 rfl (by omega) hfr ?_ hx
           rw [e8] at h32
           have hbd : bdX μ FP kind p1 i = false := by unfold bdX; simp [h32]
           rw [sel_no hbd]
           exact hch)
    refine xj_aload_n E d_X9_appendBound_44 rfl ?_
    refine xj_aload E d_X9_appendBound_45 rfl ?_
    refine xj_geta E fl_X9_119 (by decide) rfl (by decide) rfl d_X9_appendBound_47 ?_
    refine xj_callV E (k_X9_isInForce l G hI (i + 1) (xnt μ) FP _ (by rw [hfr.1.typ]; exact hw.1) (by rw [hfr.1.row]; exact hw.2.2.2.2.1 i hlt) (by rw [hfr.1.conf]; exact hcf i hlt) (by rw [hfr.2]; exact hF)) cw_X9_243 cv_X9_isInForce (by decide) rfl rfl rfl ⟨by decide, by decide⟩ (Nat.le_of_ble_eq_true rfl) d_X9_appendBound_50 ⟨by decide, by decide⟩ (fun r50 μ50 ho50 hp50 => ?_)
    rw [hfr.1.nb, hfr.1.pair] at hp50
    obtain ⟨rfl, S, rfl⟩ := hp50
    refine xj_if_eq (tgt := 69) E d_X9_appendBound_53 (by decide) (fun h53 => ?_) (fun h53 => ?_)
    · refine xj_iinc (v := nI (i + 1)) E d_X9_appendBound_69 rfl (nI_inc i) rfl ?_
      refine xj_goto (tgt := 10) E d_X9_appendBound_72 (by decide) ?_
      refine xj_forget 4 ?_
      first
        | (refine ih (xni μ - (i + 1)) (by omega) (i + 1) _ hp1 rfl (by omega) ((hfr.tr (frB_mcl _ S)).tr (frB_ch hfr2)) ?_ hx
           have hbd : bdX μ FP kind p1 i = true := by unfold bdX; rw [← e8]; simp only [Bool.and_eq_true, decide_eq_true_eq]; exact ⟨h32, b01n h41, b10n h53⟩
           rw [sel_yes hbd, List.map_append, ← List.append_assoc]
           have e9 : mcl μ1 1 S 8 i 2 = μ 8 i 2 := by rw [mcl_f ⟨by decide, by decide, by decide⟩, e8]
           rw [e9] at hch2
           exact hch2)
        | (refine ih (xni μ - (i + 1)) (by omega) (i + 1) _ hp1 rfl (by omega) (hfr.tr (frB_mcl _ S)) ?_ hx
           have hbd : bdX μ FP kind p1 i = false := by unfold bdX; rw [b10 h53]; simp
           rw [sel_no hbd]
           exact xCh_mcl hch)
        | (refine ih (xni μ - (i + 1)) (by omega) (i + 1) _ hp1 rfl (by omega) hfr ?_ hx
           have hz := b01 h41
           rw [e8] at hz
           have hbd : bdX μ FP kind p1 i = false := by unfold bdX; simp [hz]
           rw [sel_no hbd]
           exact hch)
        | (refine ih (xni μ - (i + 1)) (by omega) (i + 1) _ hp1 rfl (by omega) hfr ?_ hx
           rw [e8] at h32
           have hbd : bdX μ FP kind p1 i = false := by unfold bdX; simp [h32]
           rw [sel_no hbd]
           exact hch)
    refine xj_aload_n E d_X9_appendBound_56 rfl ?_
    refine xj_geta E fl_X9_50 (by decide) rfl (by decide) rfl d_X9_appendBound_57 ?_
    refine xj_iload_n E d_X9_appendBound_60 rfl ?_
    refine xj_aload E d_X9_appendBound_61 rfl ?_
    refine xj_geti E fl_X9_237 (by decide) rfl (by decide) rfl d_X9_appendBound_63 ?_
    refine xj_callV E (k_X2_add l G hI (nI i) _ (l0 ++ (sel (bdX μ FP kind) (xni μ) p1 i).map (eI μ)) _ (xCh_mcl hch) (by have := sel_lt (bdX_u μ FP kind) hp1 hlt (by unfold bdX; rw [← e8]; simp only [Bool.and_eq_true, decide_eq_true_eq]; exact ⟨h32, b01n h41, b10n h53⟩); simp; omega)) cw_X9_226 cv_X2_add (by decide) rfl rfl rfl ⟨by decide, by decide⟩ (Nat.le_of_ble_eq_true rfl) d_X9_appendBound_66 ⟨by decide, by decide⟩ (fun r66 μ66 ho66 hp66 => ?_)
    obtain ⟨rfl, hch2, hfr2⟩ := hp66
    refine xj_iinc (v := nI (i + 1)) E d_X9_appendBound_69 rfl (nI_inc i) rfl ?_
    refine xj_goto (tgt := 10) E d_X9_appendBound_72 (by decide) ?_
    refine xj_forget 4 ?_
    first
      | (refine ih (xni μ - (i + 1)) (by omega) (i + 1) _ hp1 rfl (by omega) ((hfr.tr (frB_mcl _ S)).tr (frB_ch hfr2)) ?_ hx
         have hbd : bdX μ FP kind p1 i = true := by unfold bdX; rw [← e8]; simp only [Bool.and_eq_true, decide_eq_true_eq]; exact ⟨h32, b01n h41, b10n h53⟩
         rw [sel_yes hbd, List.map_append, ← List.append_assoc]
         have e9 : mcl μ1 1 S 8 i 2 = μ 8 i 2 := by rw [mcl_f ⟨by decide, by decide, by decide⟩, e8]
         rw [e9] at hch2
         exact hch2)
      | (refine ih (xni μ - (i + 1)) (by omega) (i + 1) _ hp1 rfl (by omega) (hfr.tr (frB_mcl _ S)) ?_ hx
         have hbd : bdX μ FP kind p1 i = false := by unfold bdX; rw [b10 h53]; simp
         rw [sel_no hbd]
         exact xCh_mcl hch)
      | (refine ih (xni μ - (i + 1)) (by omega) (i + 1) _ hp1 rfl (by omega) hfr ?_ hx
         have hz := b01 h41
         rw [e8] at hz
         have hbd : bdX μ FP kind p1 i = false := by unfold bdX; simp [hz]
         rw [sel_no hbd]
         exact hch)
      | (refine ih (xni μ - (i + 1)) (by omega) (i + 1) _ hp1 rfl (by omega) hfr ?_ hx
         rw [e8] at h32
         have hbd : bdX μ FP kind p1 i = false := by unfold bdX; simp [h32]
         rw [sel_no hbd]
         exact hch)
  have lp1 : ∀ (Q : State → Prop) (n p1 : Nat) (μ1 : Mem), 9 - p1 = n → p1 ≤ 9 → frB μ μ1 → xCh μ1 (l0 ++ (sel (bdX μ FP kind) (xni μ) p1 0).map (eI μ)) → (∀ μ2, frB μ μ2 → xCh μ2 (l0 ++ (sel (bdX μ FP kind) (xni μ) 9 0).map (eI μ)) → XJ G (xA G) 5 p l e (xr 3) s m args below meth c 0 0 Q 81 [some (.inr (0, 0)), some (.inl kind), some (.inl (nI 10)), none, none] [] μ2) → XJ G (xA G) 5 p l e (xr 3) s m args below meth c 0 0 Q 2 [some (.inr (0, 0)), some (.inl kind), some (.inl (nI (p1 + 1))), none, none] [] μ1 := by
    intro Q n
    induction n using Nat.strongRecOn with
    | _ n ih =>
    intro p1 μ1 hn hp1 hfr hch hx
    refine xj_iload_n E d_X9_appendBound_2 rfl ?_
    refine xj_bipush (v := 9) E d_X9_appendBound_3 (by decide) ?_
    refine xj_icmp_gt (tgt := 81) E d_X9_appendBound_5 (by decide) (fun h5 => ?_) (fun h5 => ?_)
    · have hk8 : p1 = 9 := by
        have := (nI_ltI (a := 9) (b := p1 + 1) (by omega) (by omega)).mp h5
        omega
      subst hk8
      exact hx _ hfr hch
    have hlt : p1 < 9 := by
      have := Nat.not_lt.mp (fun q => h5 (nI_lt (a := 9) (b := p1 + 1) q (by omega)))
      omega
    refine xj_iconst (v := 0) E d_X9_appendBound_8 (by decide) ?_
    refine xj_istore_n E d_X9_appendBound_9 (by decide) rfl ?_
    refine lp2 Q p1 (xni μ) 0 μ1 hlt (by omega) (by omega) hfr hch (fun μ2 hfr2 hch2 => ?_)
    refine xj_iinc (v := nI (p1 + 1 + 1)) E d_X9_appendBound_75 rfl (nI_inc (p1 + 1)) rfl ?_
    refine xj_goto (tgt := 2) E d_X9_appendBound_78 (by decide) ?_
    exact ih (9 - (p1 + 1)) (by omega) (p1 + 1) _ rfl (by omega) hfr2 (by rw [← sel_next]; exact hch2) hx
  refine xj_iconst (v := 1) E d_X9_appendBound_0 (by decide) ?_
  refine xj_istore_n E d_X9_appendBound_1 (by decide) rfl ?_
  refine lp1 _ 9 0 μ rfl (by omega) (frB.rf μ) (by rw [sel_0]; simpa using hch) (fun μ2 hfr2 hch2 => ?_)
  exact xj_vret E hr hlk d_X9_appendBound_81 ⟨rfl, hfr2, hch2⟩

set_option maxRecDepth 100000 in
set_option maxHeartbeats 4000000 in
/-- X9 appendDecorators -/
theorem k_X9_appendDecorators (l : Launch) (G : XG) (hI : XI G) (ot y : Int32) (l0 : List (Int32 × Int32)) (μ : Mem) (hw : xWF μ) (hch : xCh μ l0) (hl0 : l0.length ≤ 16) : XMet l G y_X9_appendDecorators c_X9_appendDecorators 5 none 1 [.inr (0, 0), .inl ot, .inl y] μ (fun r μ' => r = none ∧ frB μ μ' ∧ xCh μ' (l0 ++ (sel (bdD μ ot y) (xnd μ) 9 0).map (eD μ))) := by
  refine xj_met (by decide) hI (Nat.le_of_ble_eq_true rfl) ?_
  intro p e s m args below meth c E hr hlk
  have E : XE G (xA G) RX9 c_X9_appendDecorators 5 p s m args c := E
  refine xj_loc (L' := [some (.inr (0, 0)), some (.inl ot), some (.inl y), none, none]) rfl ?_
  have hni := hw.2.2.1
  have lp2 : ∀ (Q : State → Prop) (p1 n i : Nat) (μ1 : Mem), p1 < 9 → xnd μ - i = n → i ≤ xnd μ → frB μ μ1 → xCh μ1 (l0 ++ (sel (bdD μ ot y) (xnd μ) p1 i).map (eD μ)) → (∀ μ2, frB μ μ2 → xCh μ2 (l0 ++ (sel (bdD μ ot y) (xnd μ) p1 (xnd μ)).map (eD μ)) → XJ G (xA G) 5 p l e (xr 1) s m args below meth c 0 0 Q 77 [some (.inr (0, 0)), some (.inl ot), some (.inl y), some (.inl (nI (p1 + 1))), none] [] μ2) → XJ G (xA G) 5 p l e (xr 1) s m args below meth c 0 0 Q 11 [some (.inr (0, 0)), some (.inl ot), some (.inl y), some (.inl (nI (p1 + 1))), some (.inl (nI i))] [] μ1 := by
    intro Q p1 n
    induction n using Nat.strongRecOn with
    | _ n ih =>
    intro i μ1 hp1 hn hi hfr hch hx
    have e2 : μ1 0 0 4 = nI (xnd μ) := by rw [hfr.1 0 (by omega)]; exact hni.1
    have e8 := hfr.1 10 (by omega)
    refine xj_iload E d_X9_appendDecorators_11 rfl ?_
    refine xj_aload_n E d_X9_appendDecorators_13 rfl ?_
    refine xj_geti E fl_X9_68 (by decide) rfl (by decide) rfl d_X9_appendDecorators_14 ?_
    refine xj_icmp_ge (tgt := 77) E d_X9_appendDecorators_17 (by decide) (fun h17 => ?_) (fun h17 => ?_)
    · have hk8 : i = xnd μ := by
        have := ge_nI (b := i) (by rw [← e2]; exact h17) (by omega) (by omega)
        omega
      subst hk8
      refine xj_forget 4 ?_
      exact hx _ hfr hch
    have hlt : i < xnd μ := ng_nI (b := i) (by rw [← e2]; exact h17) (by omega) (by omega)
    have hin : vp_in (nI i) 4 := in_nI (by omega) (by omega)
    have hcl : (nI i).toNatClampNeg = i := cl_nI (by omega)
    refine xj_aload_n E d_X9_appendDecorators_20 rfl ?_
    refine xj_geta E fl_X9_25 (by decide) rfl (by decide) rfl d_X9_appendDecorators_21 ?_
    refine xj_iload E d_X9_appendDecorators_24 rfl ?_
    refine xj_aald E (by decide) rfl hin d_X9_appendDecorators_26 ?_
    refine xj_st (st' := [.inr (10, i)]) (by rw [hcl]; try rfl) ?_
    refine xj_geti E fl_X9_251 (by decide) rfl (by decide) rfl d_X9_appendDecorators_27 ?_
    refine xj_iload_n E d_X9_appendDecorators_30 rfl ?_
    refine xj_icmp_ne (tgt := 71) E d_X9_appendDecorators_31 (by decide) (fun h31 => ?_) (fun h31 => ?_)
    · refine xj_iinc (v := nI (i + 1)) E d_X9_appendDecorators_71 rfl (nI_inc i) rfl ?_
      refine xj_goto (tgt := 11) E d_X9_appendDecorators_74 (by decide) ?_
      first
        | (refine ih (xnd μ - (i + 1)) (by omega) (i + 1) _ hp1 rfl (by omega) (hfr.tr (frB_ch hfr2)) ?_ hx
           rw [sel_yes hbd, List.map_append, ← List.append_assoc]
           rw [e8] at hch2
           exact hch2)
        | (refine ih (xnd μ - (i + 1)) (by omega) (i + 1) _ hp1 rfl (by omega) hfr ?_ hx
           have hbd : bdD μ ot y p1 i = false := by
             unfold bdD
             rw [← e8]
             simp only [Bool.and_eq_false_iff, decide_eq_false_iff_not]
             right
             intro q
             rw [if_neg q.1, if_neg q.2] at h46
             exact i1_0 h46
           rw [sel_no hbd]
           exact hch)
        | (refine ih (xnd μ - (i + 1)) (by omega) (i + 1) _ hp1 rfl (by omega) hfr ?_ hx
           rw [e8] at h31
           have hbd : bdD μ ot y p1 i = false := by unfold bdD; simp [h31]
           rw [sel_no hbd]
           exact hch)
    refine xj_aload_n E d_X9_appendDecorators_34 rfl ?_
    refine xj_geta E fl_X9_25 (by decide) rfl (by decide) rfl d_X9_appendDecorators_35 ?_
    refine xj_iload E d_X9_appendDecorators_38 rfl ?_
    refine xj_aald E (by decide) rfl hin d_X9_appendDecorators_40 ?_
    refine xj_st (st' := [.inr (10, i)]) (by rw [hcl]; try rfl) ?_
    refine xj_iload_n E d_X9_appendDecorators_41 rfl ?_
    refine xj_iload_n E d_X9_appendDecorators_42 rfl ?_
    refine xj_callV E (k_X5_decorates l G hI i ot y _) cw_X9_252 cv_X5_decorates (by decide) rfl rfl rfl ⟨by decide, by decide⟩ (Nat.le_of_ble_eq_true rfl) d_X9_appendDecorators_43 ⟨by decide, by decide⟩ (fun r43 μ43 ho43 hp43 => ?_)
    obtain ⟨rfl, hm43⟩ := hp43
    refine xj_mem hm43 ?_
    refine xj_if_eq (tgt := 71) E d_X9_appendDecorators_46 (by decide) (fun h46 => ?_) (fun h46 => ?_)
    · refine xj_iinc (v := nI (i + 1)) E d_X9_appendDecorators_71 rfl (nI_inc i) rfl ?_
      refine xj_goto (tgt := 11) E d_X9_appendDecorators_74 (by decide) ?_
      first
        | (refine ih (xnd μ - (i + 1)) (by omega) (i + 1) _ hp1 rfl (by omega) (hfr.tr (frB_ch hfr2)) ?_ hx
           rw [sel_yes hbd, List.map_append, ← List.append_assoc]
           rw [e8] at hch2
           exact hch2)
        | (refine ih (xnd μ - (i + 1)) (by omega) (i + 1) _ hp1 rfl (by omega) hfr ?_ hx
           have hbd : bdD μ ot y p1 i = false := by
             unfold bdD
             rw [← e8]
             simp only [Bool.and_eq_false_iff, decide_eq_false_iff_not]
             right
             intro q
             rw [if_neg q.1, if_neg q.2] at h46
             exact i1_0 h46
           rw [sel_no hbd]
           exact hch)
        | (refine ih (xnd μ - (i + 1)) (by omega) (i + 1) _ hp1 rfl (by omega) hfr ?_ hx
           rw [e8] at h31
           have hbd : bdD μ ot y p1 i = false := by unfold bdD; simp [h31]
           rw [sel_no hbd]
           exact hch)
    refine xj_aload_n E d_X9_appendDecorators_49 rfl ?_
    refine xj_geta E fl_X9_50 (by decide) rfl (by decide) rfl d_X9_appendDecorators_50 ?_
    refine xj_bipush (v := 16) E d_X9_appendDecorators_53 (by decide) ?_
    refine xj_iload E d_X9_appendDecorators_55 rfl ?_
    refine xj_iadd E d_X9_appendDecorators_57 ?_
    refine xj_st (st' := [.inl (nI (16 + i)), .inr (19, 0)]) (by rw [← nI_add]; rfl) ?_
    refine xj_aload_n E d_X9_appendDecorators_58 rfl ?_
    refine xj_geta E fl_X9_25 (by decide) rfl (by decide) rfl d_X9_appendDecorators_59 ?_
    refine xj_iload E d_X9_appendDecorators_62 rfl ?_
    refine xj_aald E (by decide) rfl hin d_X9_appendDecorators_64 ?_
    refine xj_st (st' := [.inr (10, i), .inl (nI (16 + i)), .inr (19, 0)]) (by rw [hcl]; try rfl) ?_
    have hbd : bdD μ ot y p1 i = true := by
      unfold bdD
      rw [← e8]
      simp only [Bool.and_eq_true, decide_eq_true_eq]
      refine ⟨h31, fun q => h46 (if_pos q), fun q => h46 ?_⟩
      split
      · rfl
      · rfl
    refine xj_geti E fl_X9_255 (by decide) rfl (by decide) rfl d_X9_appendDecorators_65 ?_
    refine xj_callV E (k_X2_add l G hI (nI (16 + i)) _ (l0 ++ (sel (bdD μ ot y) (xnd μ) p1 i).map (eD μ)) _ hch (by have := sel_lt (bdD_u μ ot y) hp1 hlt hbd; simp; omega)) cw_X9_226 cv_X2_add (by decide) rfl rfl rfl ⟨by decide, by decide⟩ (Nat.le_of_ble_eq_true rfl) d_X9_appendDecorators_68 ⟨by decide, by decide⟩ (fun r68 μ68 ho68 hp68 => ?_)
    obtain ⟨rfl, hch2, hfr2⟩ := hp68
    refine xj_iinc (v := nI (i + 1)) E d_X9_appendDecorators_71 rfl (nI_inc i) rfl ?_
    refine xj_goto (tgt := 11) E d_X9_appendDecorators_74 (by decide) ?_
    first
      | (refine ih (xnd μ - (i + 1)) (by omega) (i + 1) _ hp1 rfl (by omega) (hfr.tr (frB_ch hfr2)) ?_ hx
         rw [sel_yes hbd, List.map_append, ← List.append_assoc]
         rw [e8] at hch2
         exact hch2)
      | (refine ih (xnd μ - (i + 1)) (by omega) (i + 1) _ hp1 rfl (by omega) hfr ?_ hx
         have hbd : bdD μ ot y p1 i = false := by
           unfold bdD
           rw [← e8]
           simp only [Bool.and_eq_false_iff, decide_eq_false_iff_not]
           right
           intro q
           rw [if_neg q.1, if_neg q.2] at h46
           exact i1_0 h46
         rw [sel_no hbd]
         exact hch)
      | (refine ih (xnd μ - (i + 1)) (by omega) (i + 1) _ hp1 rfl (by omega) hfr ?_ hx
         rw [e8] at h31
         have hbd : bdD μ ot y p1 i = false := by unfold bdD; simp [h31]
         rw [sel_no hbd]
         exact hch)
  have lp1 : ∀ (Q : State → Prop) (n p1 : Nat) (μ1 : Mem), 9 - p1 = n → p1 ≤ 9 → frB μ μ1 → xCh μ1 (l0 ++ (sel (bdD μ ot y) (xnd μ) p1 0).map (eD μ)) → (∀ μ2, frB μ μ2 → xCh μ2 (l0 ++ (sel (bdD μ ot y) (xnd μ) 9 0).map (eD μ)) → XJ G (xA G) 5 p l e (xr 1) s m args below meth c 0 0 Q 83 [some (.inr (0, 0)), some (.inl ot), some (.inl y), some (.inl (nI 10)), none] [] μ2) → XJ G (xA G) 5 p l e (xr 1) s m args below meth c 0 0 Q 2 [some (.inr (0, 0)), some (.inl ot), some (.inl y), some (.inl (nI (p1 + 1))), none] [] μ1 := by
    intro Q n
    induction n using Nat.strongRecOn with
    | _ n ih =>
    intro p1 μ1 hn hp1 hfr hch hx
    refine xj_iload_n E d_X9_appendDecorators_2 rfl ?_
    refine xj_bipush (v := 9) E d_X9_appendDecorators_3 (by decide) ?_
    refine xj_icmp_gt (tgt := 83) E d_X9_appendDecorators_5 (by decide) (fun h5 => ?_) (fun h5 => ?_)
    · have hk8 : p1 = 9 := by
        have := (nI_ltI (a := 9) (b := p1 + 1) (by omega) (by omega)).mp h5
        omega
      subst hk8
      exact hx _ hfr hch
    have hlt : p1 < 9 := by
      have := Nat.not_lt.mp (fun q => h5 (nI_lt (a := 9) (b := p1 + 1) q (by omega)))
      omega
    refine xj_iconst (v := 0) E d_X9_appendDecorators_8 (by decide) ?_
    refine xj_istore E d_X9_appendDecorators_9 (by decide) rfl ?_
    refine lp2 Q p1 (xnd μ) 0 μ1 hlt (by omega) (by omega) hfr hch (fun μ2 hfr2 hch2 => ?_)
    refine xj_iinc (v := nI (p1 + 1 + 1)) E d_X9_appendDecorators_77 rfl (nI_inc (p1 + 1)) rfl ?_
    refine xj_goto (tgt := 2) E d_X9_appendDecorators_80 (by decide) ?_
    exact ih (9 - (p1 + 1)) (by omega) (p1 + 1) _ rfl (by omega) hfr2 (by rw [← sel_next]; exact hch2) hx
  refine xj_iconst (v := 1) E d_X9_appendDecorators_0 (by decide) ?_
  refine xj_istore_n E d_X9_appendDecorators_1 (by decide) rfl ?_
  refine lp1 _ 9 0 μ rfl (by omega) (frB.rf μ) (by rw [sel_0]; simpa using hch) (fun μ2 hfr2 hch2 => ?_)
  exact xj_vret E hr hlk d_X9_appendDecorators_83 ⟨rfl, hfr2, hch2⟩
