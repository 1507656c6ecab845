/-! THE REFERENCE. Frames: of other families than fs, and of the object's other slots than js, nothing changes -/
def frG (fs js : List Nat) (μ μ' : Mem) : Prop := (∀ f, f ≠ 24 → f ∉ fs → μ' f = μ f) ∧ ∀ i j, ¬ (i = 0 ∧ j ∈ js) → μ' 24 i j = μ 24 i j
theorem frG.rf (fs js : List Nat) (μ : Mem) : frG fs js μ μ := ⟨fun _ _ _ => rfl, fun _ _ _ => rfl⟩
theorem frG.tr {fs js : List Nat} {μ μ1 μ2 : Mem} (h1 : frG fs js μ μ1) (h2 : frG fs js μ1 μ2) : frG fs js μ μ2 := ⟨fun f a b => (h2.1 f a b).trans (h1.1 f a b), fun i j a => (h2.2 i j a).trans (h1.2 i j a)⟩
theorem frG.up {fs js fs' js' : List Nat} {μ μ' : Mem} (h : frG fs js μ μ') (h1 : ∀ f, f ∈ fs → f ∈ fs') (h2 : ∀ j, j ∈ js → j ∈ js') : frG fs' js' μ μ' := ⟨fun f a b => h.1 f a (fun q => b (h1 f q)), fun i j a => h.2 i j (fun q => a ⟨q.1, h2 j q.2⟩)⟩
theorem frG_f {fs js : List Nat} {μ : Mem} {f i j : Nat} {x : Int32} (h : f ≠ 24) (hf : f ∈ fs) : frG fs js μ (mset μ f i j x) := ⟨fun g h1 h2 => mset_f (fun q => h2 (q ▸ hf)), fun a b _ => by rw [mset_f (Ne.symm h)]⟩
theorem frG_o {fs js : List Nat} {μ : Mem} {j : Nat} {x : Int32} (hj : j ∈ js) : frG fs js μ (mset μ 24 0 j x) := ⟨fun g h1 _ => mset_f h1, fun a b h => by
  by_cases e : a = 0
  · subst e
    exact mset_j (fun q => h ⟨rfl, q ▸ hj⟩)
  · rw [mset_i e]⟩
abbrev frC : Mem → Mem → Prop := frG [55, 56] [24]
abbrev frF : Mem → Mem → Prop := frG [55, 56, 58, 59] [24, 27]
abbrev frL : Mem → Mem → Prop := frG [55, 56, 58, 59, 61] [24, 27, 30]
theorem frC.f {μ μ' : Mem} (h : frC μ μ') : frF μ μ' := h.up (by decide) (by decide)
theorem frF.l {μ μ' : Mem} (h : frF μ μ') : frL μ μ' := h.up (by decide) (by decide)
/-- a list of pairs in two arrays, its length in a slot -/
def LIs (fT fV js : Nat) (μ : Mem) (l : PL) : Prop := μ 24 0 js = nI l.length ∧ ∀ (k : Nat) (q : Nat × Int32), l[k]? = some q → μ fT 0 k = nI q.1 ∧ μ fV 0 k = q.2
abbrev cIs : Mem → PL → Prop := LIs 55 56 24
abbrev fIs : Mem → PL → Prop := LIs 58 59 27
theorem LIs.keep {fT fV js : Nat} {μ μ' : Mem} {l : PL} (h : LIs fT fV js μ l) (h1 : μ' 24 0 js = μ 24 0 js) (h2 : μ' fT = μ fT) (h3 : μ' fV = μ fV) : LIs fT fV js μ' l := by
  unfold LIs
  rw [h1, h2, h3]
  exact h
theorem LIs.app {fT fV js : Nat} {μ : Mem} {l : PL} {t : Nat} {v : Int32} (h : LIs fT fV js μ l) (h1 : fT ≠ 24) (h2 : fV ≠ 24) (h3 : fT ≠ fV) : LIs fT fV js (mset (mset (mset μ fT 0 l.length (nI t)) fV 0 l.length v) 24 0 js (nI (l.length + 1))) (l ++ [(t, v)]) := by
  refine ⟨by rw [mset_at]; simp, fun k q hk => ?_⟩
  rw [mset_f h1, mset_f h3, mset_same, mset_f h2, mset_same, mset_f (Ne.symm h3)]
  by_cases e : k < l.length
  · rw [List.getElem?_append_left e] at hk
    have hne : ¬ k = l.length := by omega
    rw [upd_ne hne, upd_ne hne]
    exact h.2 k q hk
  · rw [List.getElem?_append_right (by omega)] at hk
    have hz : k - l.length < 1 := (List.getElem?_eq_some_iff.mp hk).1
    have e2 : k = l.length := by omega
    subst e2
    simp at hk
    subst hk
    rw [upd_at, upd_at]
    exact ⟨rfl, rfl⟩
theorem LIs.nil {fT fV js : Nat} {μ : Mem} (h : μ 24 0 js = 0) : LIs fT fV js μ [] := ⟨h, fun k q hk => by simp at hk⟩
/-- the reference's rows, as data -/
def mnb (μ : Mem) (r : Nat) : Nat := (μ 49 0 r).toNatClampNeg
def mbt (μ : Mem) (r k : Nat) : Nat := (μ 50 0 (4 * r + k)).toNatClampNeg
def mbv (μ : Mem) (r k : Nat) : Int32 := μ 51 0 (4 * r + k)
def mnc (μ : Mem) : Nat := (μ 24 0 3).toNatClampNeg
def mca (μ : Mem) (k : Nat) : Nat := (μ 34 0 k).toNatClampNeg
def mct (μ : Mem) (k : Nat) : Nat := (μ 35 0 k).toNatClampNeg
def mcw (μ : Mem) (k : Nat) : Int32 := μ 36 0 k
abbrev mPair (μ : Mem) (r : Nat) : Nat → Int32 → Prop := clPair (mnb μ r) (mbt μ r) (mbv μ r) (mnc μ) (mca μ) (mct μ) (mcw μ)
abbrev mConf (μ : Mem) (r : Nat) : Prop := clConf (mnb μ r) (mbt μ r) (mbv μ r) (mnc μ) (mca μ) (mct μ) (mcw μ)
abbrev mClOK (μ : Mem) (r : Nat) (l : PL) : Prop := mOK (mnb μ r) (mbt μ r) (mbv μ r) (mnc μ) (mca μ) (mct μ) (mcw μ) l
def mRow (μ : Mem) (r nt : Nat) : Prop := (μ 49 0 r = nI (mnb μ r) ∧ mnb μ r ≤ 4) ∧ ∀ k, k < mnb μ r → μ 50 0 (4 * r + k) = nI (mbt μ r k) ∧ mbt μ r k < nt
def mTyp (μ : Mem) (nt : Nat) : Prop := nt ≤ 8 ∧ (μ 24 0 3 = nI (mnc μ) ∧ mnc μ ≤ 16) ∧ ∀ k, k < mnc μ → (μ 34 0 k = nI (mca μ k) ∧ mca μ k < nt) ∧ μ 35 0 k = nI (mct μ k) ∧ mct μ k < nt
theorem ix4 (r k : Nat) : (4 : Int32) * nI r + nI k = nI (4 * r + k) := by
  rw [show (4 : Int32) = nI 4 from rfl, pk_mul, nI_add]
/-- what the closures' data read stays, when only closures, forces and chains are made -/
def frD (μ μ' : Mem) : Prop := (∀ f, f ∈ [34, 35, 36, 38, 39, 40, 42, 43, 44, 45, 47, 48, 49, 50, 51, 52, 53] → μ' f = μ f) ∧ ∀ j, j ∈ [1, 3, 7, 11, 16] → μ' 24 0 j = μ 24 0 j
theorem frL.d {μ μ' : Mem} (h : frL μ μ') : frD μ μ' := ⟨fun f hf => h.1 f (fun q => by subst q; revert hf; decide) (fun q => by
  simp only [List.mem_cons, List.not_mem_nil, or_false] at hf q
  omega), fun j hj => h.2 0 j (fun q => by
  simp only [List.mem_cons, List.not_mem_nil, or_false] at hj q
  omega)⟩
theorem frD.nb {μ μ' : Mem} (h : frD μ μ') (r : Nat) : mnb μ' r = mnb μ r := by unfold mnb; rw [h.1 49 (by decide)]
theorem frD.bt {μ μ' : Mem} (h : frD μ μ') (r : Nat) : mbt μ' r = mbt μ r := by funext k; unfold mbt; rw [h.1 50 (by decide)]
theorem frD.bv {μ μ' : Mem} (h : frD μ μ') (r : Nat) : mbv μ' r = mbv μ r := by funext k; unfold mbv; rw [h.1 51 (by decide)]
theorem frD.nc {μ μ' : Mem} (h : frD μ μ') : mnc μ' = mnc μ := by unfold mnc; rw [h.2 3 (by decide)]
theorem frD.ca {μ μ' : Mem} (h : frD μ μ') : mca μ' = mca μ := by funext k; unfold mca; rw [h.1 34 (by decide)]
theorem frD.ct {μ μ' : Mem} (h : frD μ μ') : mct μ' = mct μ := by funext k; unfold mct; rw [h.1 35 (by decide)]
theorem frD.cw {μ μ' : Mem} (h : frD μ μ') : mcw μ' = mcw μ := by funext k; unfold mcw; rw [h.1 36 (by decide)]
theorem frD.pair {μ μ' : Mem} (h : frD μ μ') (r : Nat) : mPair μ' r = mPair μ r := by unfold mPair; rw [h.nb, h.bt, h.bv, h.nc, h.ca, h.ct, h.cw]
theorem frD.conf {μ μ' : Mem} (h : frD μ μ') (r : Nat) : mConf μ' r = mConf μ r := by unfold mConf; rw [h.nb, h.bt, h.bv, h.nc, h.ca, h.ct, h.cw]
theorem frD.clok {μ μ' : Mem} (h : frD μ μ') (r : Nat) : mClOK μ' r = mClOK μ r := by funext l; unfold mClOK; rw [h.nb, h.bt, h.bv, h.nc, h.ca, h.ct, h.cw]
theorem frD.row {μ μ' : Mem} (h : frD μ μ') (r nt : Nat) : mRow μ' r nt = mRow μ r nt := by unfold mRow; rw [h.nb, h.bt, h.1 49 (by decide), h.1 50 (by decide)]
theorem frD.typ {μ μ' : Mem} (h : frD μ μ') (nt : Nat) : mTyp μ' nt = mTyp μ nt := by unfold mTyp; rw [h.nc, h.ca, h.ct, h.2 3 (by decide), h.1 34 (by decide), h.1 35 (by decide)]
theorem frD.tr {μ μ1 μ2 : Mem} (h1 : frD μ μ1) (h2 : frD μ1 μ2) : frD μ μ2 := ⟨fun f a => (h2.1 f a).trans (h1.1 f a), fun j a => (h2.2 j a).trans (h1.2 j a)⟩
theorem mOK_lt {μ : Mem} {r nt : Nat} {l : PL} (hT : mTyp μ nt) (hR : mRow μ r nt) (h : ∀ q, q ∈ l → mPair μ r q.1 q.2) : ∀ q, q ∈ l → q.1 ≤ 1000 := by
  intro q hq
  have := hT.1
  rcases h q hq with ⟨k, hk, e, -⟩ | ⟨k, hk, -, e, -⟩
  · have := (hR.2 k hk).2
    omega
  · have := (hT.2.2 k hk).2.2
    omega

set_option maxRecDepth 100000 in
set_option maxHeartbeats 4000000 in
/-- X10 within -/
theorem k_X10_within (l : Launch) (G : XG) (hI : XI G) (x n : Int32) (μ : Mem)  : XMet l G y_X10_within c_X10_within 2 (some .boolean) 0 [.inl x, .inl n] μ (fun r μ' => r = some (.inl (if x < 0 then 0 else if n < x then 0 else 1)) ∧ μ' = μ) := by
  refine xj_met (by decide) hI (Nat.le_of_ble_eq_true rfl) ?_
  intro p e s m args below meth c E hr hlk
  have E : XE G (xA G) RX10 c_X10_within 2 p s m args c := E
  refine xj_loc (L' := [some (.inl x), some (.inl n)]) rfl ?_
  refine xj_iload_n E d_X10_within_0 rfl ?_
  refine xj_if_lt (tgt := 13) E d_X10_within_1 (by decide) (fun h1 => ?_) (fun h1 => ?_)
  · refine xj_iconst (v := 0) E d_X10_within_13 (by decide) ?_
    exact xj_zret E hr hlk (by decide) d_X10_within_14 (by first | exact ⟨by rw [if_pos h1], rfl⟩ | exact ⟨by rw [if_neg h1, if_pos h6], rfl⟩ | exact ⟨by rw [if_neg h1, if_neg h6], rfl⟩)
  refine xj_iload_n E d_X10_within_4 rfl ?_
  refine xj_iload_n E d_X10_within_5 rfl ?_
  refine xj_icmp_gt (tgt := 13) E d_X10_within_6 (by decide) (fun h6 => ?_) (fun h6 => ?_)
  · refine xj_iconst (v := 0) E d_X10_within_13 (by decide) ?_
    exact xj_zret E hr hlk (by decide) d_X10_within_14 (by first | exact ⟨by rw [if_pos h1], rfl⟩ | exact ⟨by rw [if_neg h1, if_pos h6], rfl⟩ | exact ⟨by rw [if_neg h1, if_neg h6], rfl⟩)
  refine xj_iconst (v := 1) E d_X10_within_9 (by decide) ?_
  refine xj_goto (tgt := 14) E d_X10_within_10 (by decide) ?_
  exact xj_zret E hr hlk (by decide) d_X10_within_14 (by first | exact ⟨by rw [if_pos h1], rfl⟩ | exact ⟨by rw [if_neg h1, if_pos h6], rfl⟩ | exact ⟨by rw [if_neg h1, if_neg h6], rfl⟩)

set_option maxRecDepth 100000 in
set_option maxHeartbeats 4000000 in
/-- X10 add -/
theorem k_X10_add (l : Launch) (G : XG) (hI : XI G) (t : Nat) (v : Int32) (l0 : PL) (μ : Mem) (hc : cIs μ l0) (hl : l0.length ≤ 24) (ht : t ≤ 1000) (hty : ∀ q, q ∈ l0 → q.1 ≤ 1000) (hroom : (t, v) ∈ l0 ∨ l0.length < 24) : XMet l G y_X10_add c_X10_add 4 none 0 [.inr (24, 0), .inl (nI t), .inl v] μ (fun r μ' => r = none ∧ cIs μ' (mAdd t v l0) ∧ frC μ μ') := by
  refine xj_met (by decide) hI (Nat.le_of_ble_eq_true rfl) ?_
  intro p e s m args below meth c E hr hlk
  have E : XE G (xA G) RX10 c_X10_add 4 p s m args c := E
  refine xj_loc (L' := [some (.inr (24, 0)), some (.inl (nI t)), some (.inl v), none]) rfl ?_
  have hn24 := hl
  have lp : ∀ (Q : State → Prop) (n k : Nat), l0.length - k = n → k ≤ l0.length → (∀ (i : Nat) (q : Nat × Int32), i < k → l0[i]? = some q → q ≠ (t, v)) → ((∀ q, q ∈ l0 → q ≠ (t, v)) → XJ G (xA G) 4 p l e (xr 0) s m args below meth c 0 0 Q 37 [some (.inr (24, 0)), some (.inl (nI t)), some (.inl v), some (.inl (nI l0.length))] [] μ) → (∀ k, (t, v) ∈ l0 → XJ G (xA G) 4 p l e (xr 0) s m args below meth c 0 0 Q 30 [some (.inr (24, 0)), some (.inl (nI t)), some (.inl v), some (.inl (nI k))] [] μ) → XJ G (xA G) 4 p l e (xr 0) s m args below meth c 0 0 Q 2 [some (.inr (24, 0)), some (.inl (nI t)), some (.inl v), some (.inl (nI k))] [] μ := by
    intro Q n
    induction n using Nat.strongRecOn with
    | _ n ih =>
    intro k hn hk hinv hx hy
    refine xj_iload_n E d_X10_add_2 rfl ?_
    refine xj_aload_n E d_X10_add_3 rfl ?_
    refine xj_geti E fl_X10_133 (by decide) rfl (by decide) rfl d_X10_add_4 ?_
    refine xj_icmp_ge (tgt := 37) E d_X10_add_7 (by decide) (fun h7 => ?_) (fun h7 => ?_)
    · have hk8 : k = l0.length := by
        have := ge_nI (b := k) (by rw [← hc.1]; exact h7) (by omega) (by omega)
        omega
      subst hk8
      refine hx (fun q hq e => ?_)
      obtain ⟨i, hi⟩ := List.getElem?_of_mem hq
      exact hinv i q ((List.getElem?_eq_some_iff.mp hi).1) hi e
    have hlt : k < l0.length := ng_nI (b := k) (by rw [← hc.1]; exact h7) (by omega) (by omega)
    have hin : vp_in (nI k) 24 := in_nI (by omega) (by omega)
    have hcl : (nI k).toNatClampNeg = k := cl_nI (by omega)
    have hat := List.getElem?_eq_getElem hlt
    have hm := hc.2 k _ hat
    have hq1 := hty _ (List.getElem_mem hlt)
    refine xj_aload_n E d_X10_add_10 rfl ?_
    refine xj_geta E fl_X10_65 (by decide) rfl (by decide) rfl d_X10_add_11 ?_
    refine xj_iload_n E d_X10_add_14 rfl ?_
    refine xj_iald E (by decide) hin d_X10_add_15 ?_
    refine xj_iload_n E d_X10_add_16 rfl ?_
    refine xj_icmp_ne (tgt := 31) E d_X10_add_17 (by decide) (fun h17 => ?_) (fun h17 => ?_)
    · refine xj_iinc (v := nI (k + 1)) E d_X10_add_31 rfl (nI_inc k) rfl ?_
      refine xj_goto (tgt := 2) E d_X10_add_34 (by decide) ?_
      refine ih (l0.length - (k + 1)) (by omega) (k + 1) rfl (by omega) (fun i q hi hq e => ?_) hx hy
      by_cases z : i = k
      · subst z
        rw [hat] at hq
        have e1 : l0[i] = (t, v) := (Option.some.inj hq).trans e
        rw [e1] at hm
        rw [hcl] at h17
        first
          | (rw [hcl] at h27; exact h27 hm.2)
          | exact h17 hm.1
      · exact hinv i q (by omega) hq e
    refine xj_aload_n E d_X10_add_20 rfl ?_
    refine xj_geta E fl_X10_68 (by decide) rfl (by decide) rfl d_X10_add_21 ?_
    refine xj_iload_n E d_X10_add_24 rfl ?_
    refine xj_iald E (by decide) hin d_X10_add_25 ?_
    refine xj_iload_n E d_X10_add_26 rfl ?_
    refine xj_icmp_ne (tgt := 31) E d_X10_add_27 (by decide) (fun h27 => ?_) (fun h27 => ?_)
    · refine xj_iinc (v := nI (k + 1)) E d_X10_add_31 rfl (nI_inc k) rfl ?_
      refine xj_goto (tgt := 2) E d_X10_add_34 (by decide) ?_
      refine ih (l0.length - (k + 1)) (by omega) (k + 1) rfl (by omega) (fun i q hi hq e => ?_) hx hy
      by_cases z : i = k
      · subst z
        rw [hat] at hq
        have e1 : l0[i] = (t, v) := (Option.some.inj hq).trans e
        rw [e1] at hm
        rw [hcl] at h17
        first
          | (rw [hcl] at h27; exact h27 hm.2)
          | exact h17 hm.1
      · exact hinv i q (by omega) hq e
    refine hy k ?_
    rw [hcl] at h17 h27
    have e1 : (l0[k]).1 = t := (nI_eq (by omega) (by omega)).mp (hm.1.symm.trans h17)
    have e2 : (l0[k]).2 = v := hm.2.symm.trans h27
    have e3 : l0[k] = (t, v) := Prod.ext e1 e2
    rw [← e3]
    exact List.getElem_mem hlt
  refine xj_iconst (v := 0) E d_X10_add_0 (by decide) ?_
  refine xj_istore_n E d_X10_add_1 (by decide) rfl ?_
  refine lp _ l0.length 0 (by omega) (by omega) (fun i q hi => by omega) (fun hno => ?_) (fun k hyes => ?_)
  · have hnm : ¬ (t, v) ∈ l0 := fun q => hno _ q rfl
    have hlt : l0.length < 24 := hroom.resolve_left hnm
    have hin : vp_in (μ 24 0 24) 24 := by rw [hc.1]; exact in_nI hlt (by omega)
    have hcl : (μ 24 0 24).toNatClampNeg = l0.length := by rw [hc.1]; exact cl_nI (by omega)
    refine xj_aload_n E d_X10_add_37 rfl ?_
    refine xj_geta E fl_X10_65 (by decide) rfl (by decide) rfl d_X10_add_38 ?_
    refine xj_aload_n E d_X10_add_41 rfl ?_
    refine xj_geti E fl_X10_133 (by decide) rfl (by decide) rfl d_X10_add_42 ?_
    refine xj_iload_n E d_X10_add_45 rfl ?_
    refine xj_iast E (by decide) hin d_X10_add_46 ?_
    refine xj_aload_n E d_X10_add_47 rfl ?_
    refine xj_geta E fl_X10_68 (by decide) rfl (by decide) rfl d_X10_add_48 ?_
    refine xj_aload_n E d_X10_add_51 rfl ?_
    refine xj_geti E fl_X10_133 (by decide) rfl (by decide) rfl d_X10_add_52 ?_
    refine xj_iload_n E d_X10_add_55 rfl ?_
    refine xj_iast E (by decide) hin d_X10_add_56 ?_
    refine xj_aload_n E d_X10_add_57 rfl ?_
    refine xj_dup E d_X10_add_58 ?_
    refine xj_geti E fl_X10_133 (by decide) rfl (by decide) rfl d_X10_add_59 ?_
    refine xj_iconst (v := 1) E d_X10_add_62 (by decide) ?_
    refine xj_iadd E d_X10_add_63 ?_
    refine xj_put E fp_X10_133 (by decide) rfl (by decide) rfl (narrow_i _) d_X10_add_64 ?_
    exact xj_vret E hr hlk d_X10_add_67 (⟨rfl, by unfold mAdd; rw [if_neg hnm]; show cIs (mset (mset (mset μ 55 0 (μ 24 0 24).toNatClampNeg (nI t)) 56 0 (μ 24 0 24).toNatClampNeg v) 24 0 24 (μ 24 0 24 + 1)) _; rw [hcl, hc.1, nI_1]; exact hc.app (by decide) (by decide) (by decide), ((frG_f (by decide) (by decide)).tr (frG_f (by decide) (by decide))).tr (frG_o (by decide))⟩)
  · exact xj_vret E hr hlk d_X10_add_30 (⟨rfl, by unfold mAdd; rw [if_pos hyes]; exact hc, frG.rf _ _ _⟩)

theorem mAdd_pre {t : Nat} {v : Int32} {l : PL} {i : Nat} (h : i < l.length) : (mAdd t v l)[i]? = l[i]? := by
  rw [List.getElem?_eq_getElem h]
  exact mAdd_at (List.getElem?_eq_getElem h)

set_option maxRecDepth 100000 in
set_option maxHeartbeats 4000000 in
/-- X10 close -/
theorem k_X10_close (l : Launch) (G : XG) (hI : XI G) (r nt : Nat) (μ : Mem) (hr28 : r < 28) (hT : mTyp μ nt) (hR : mRow μ r nt) : XMet l G y_X10_close c_X10_close 4 none 1 [.inr (24, 0), .inl (nI r)] μ (fun rr μ' => rr = none ∧ ∃ l1 : PL, cIs μ' l1 ∧ mClOK μ r l1 ∧ l1.length ≤ mnb μ r + mnc μ ∧ frC μ μ') := by
  refine xj_met (by decide) hI (Nat.le_of_ble_eq_true rfl) ?_
  intro p e s m args below meth c E hr hlk
  have E : XE G (xA G) RX10 c_X10_close 4 p s m args c := E
  refine xj_loc (L' := [some (.inr (24, 0)), some (.inl (nI r)), none, none]) rfl ?_
  have hnt := hT.1
  have hc16 := hT.2.1.2
  have hb4 := hR.1.2
  have lp3 : ∀ (Q : State → Prop) (k n j : Nat) (μ1 : Mem) (l1 : PL) (q0 : Nat × Int32), mnc μ - j = n → j ≤ mnc μ → frC μ μ1 → cIs μ1 l1 → mSnd (mnb μ r) (mbt μ r) (mbv μ r) (mnc μ) (mca μ) (mct μ) (mcw μ) l1 → (∀ k', k' < mnb μ r → (mbt μ r k', mbv μ r k') ∈ l1) → (∀ (i : Nat) (q : Nat × Int32), i < k → l1[i]? = some q → ∀ j, j < mnc μ → mca μ j = q.1 → (mct μ j, mcw μ j) ∈ l1) → l1[k]? = some q0 → (∀ j', j' < j → mca μ j' = q0.1 → (mct μ j', mcw μ j') ∈ l1) → (∀ (μ2 : Mem) (l2 : PL), frC μ μ2 → cIs μ2 l2 → mSnd (mnb μ r) (mbt μ r) (mbv μ r) (mnc μ) (mca μ) (mct μ) (mcw μ) l2 → (∀ k', k' < mnb μ r → (mbt μ r k', mbv μ r k') ∈ l2) → (∀ (i : Nat) (q : Nat × Int32), i < k + 1 → l2[i]? = some q → ∀ j, j < mnc μ → mca μ j = q.1 → (mct μ j, mcw μ j) ∈ l2) → k + 1 ≤ l2.length → XJ G (xA G) 4 p l e (xr 1) s m args below meth c 0 0 Q 104 [some (.inr (24, 0)), some (.inl (nI r)), some (.inl (nI k)), none] [] μ2) → XJ G (xA G) 4 p l e (xr 1) s m args below meth c 0 0 Q 59 [some (.inr (24, 0)), some (.inl (nI r)), some (.inl (nI k)), some (.inl (nI j))] [] μ1 := by
    intro Q k n
    induction n using Nat.strongRecOn with
    | _ n ih =>
    intro j μ1 l1 q0 hn hj hfr hc hs hb hcl hq0 hinv hx
    have hlen := hs.len
    have hkl : k < l1.length := (List.getElem?_eq_some_iff.mp hq0).1
    have e3 : μ1 24 0 3 = nI (mnc μ) := (hfr.2 0 3 (by decide)).trans hT.2.1.1
    have hty := mOK_lt hT hR hs.2.1
    have hq01 := hty _ (List.mem_of_getElem? hq0)
    refine xj_iload_n E d_X10_close_59 rfl ?_
    refine xj_aload_n E d_X10_close_60 rfl ?_
    refine xj_geti E fl_X10_100 (by decide) rfl (by decide) rfl d_X10_close_61 ?_
    refine xj_icmp_ge (tgt := 104) E d_X10_close_64 (by decide) (fun h64 => ?_) (fun h64 => ?_)
    · have hk8 : j = mnc μ := by
        have := ge_nI (b := j) (by rw [← e3]; exact h64) (by omega) (by omega)
        omega
      subst hk8
      refine xj_forget 3 ?_
      exact hx _ l1 hfr hc hs hb (fun i q hi hq j' hj' e => by
        by_cases z : i = k
        · subst z
          rw [hq0] at hq
          cases hq
          exact hinv j' hj' e
        · exact hcl i q (by omega) hq j' hj' e) hkl
    have hlt : j < mnc μ := ng_nI (b := j) (by rw [← e3]; exact h64) (by omega) (by omega)
    have hin : vp_in (nI j) 16 := in_nI (by omega) (by omega)
    have hcj : (nI j).toNatClampNeg = j := cl_nI (by omega)
    have hck : (nI k).toNatClampNeg = k := cl_nI (by omega)
    have hcar := hT.2.2 j hlt
    have e34 := hfr.1 34 (by decide) (by decide)
    have e35 := hfr.1 35 (by decide) (by decide)
    have e36 := hfr.1 36 (by decide) (by decide)
    refine xj_aload_n E d_X10_close_67 rfl ?_
    refine xj_geta E fl_X10_13 (by decide) rfl (by decide) rfl d_X10_close_68 ?_
    refine xj_iload_n E d_X10_close_71 rfl ?_
    refine xj_iald E (by decide) hin d_X10_close_72 ?_
    refine xj_aload_n E d_X10_close_73 rfl ?_
    refine xj_geta E fl_X10_65 (by decide) rfl (by decide) rfl d_X10_close_74 ?_
    refine xj_iload_n E d_X10_close_77 rfl ?_
    refine xj_iald E (by decide) (show vp_in (nI k) 24 from in_nI (by omega) (by omega)) d_X10_close_78 ?_
    refine xj_icmp_ne (tgt := 98) E d_X10_close_79 (by decide) (fun h79 => ?_) (fun h79 => ?_)
    · refine xj_iinc (v := nI (j + 1)) E d_X10_close_98 rfl (nI_inc j) rfl ?_
      refine xj_goto (tgt := 59) E d_X10_close_101 (by decide) ?_
      first
        | exact ih (mnc μ - (j + 1)) (by omega) (j + 1) _ (mAdd (mct μ j) (mcw μ j) l1) q0 rfl (by omega) (hfr.tr hfr2) hc2 (hs.add _ _ _ _ _ _ _ hpr hcd) (fun k' hk' => mAdd_keep (hb k' hk')) (fun i q hi hq j' hj' e => mAdd_keep (hcl i q hi (by rw [mAdd_pre (by omega)] at hq; exact hq) j' hj' e)) (mAdd_at hq0) (fun j' hj' e => by
            by_cases z : j' = j
            · subst z; exact mAdd_mem
            · exact mAdd_keep (hinv j' (by omega) e)) hx
        | exact ih (mnc μ - (j + 1)) (by omega) (j + 1) _ l1 q0 rfl (by omega) hfr hc hs hb hcl hq0 (fun j' hj' e => by
            by_cases z : j' = j
            · subst z
              exfalso
              apply h79
              rw [hcj, hck, e34, hcar.1.1, (hc.2 k q0 hq0).1, e]
            · exact hinv j' (by omega) e) hx
    refine xj_aload_n E d_X10_close_82 rfl ?_
    refine xj_aload_n E d_X10_close_83 rfl ?_
    refine xj_geta E fl_X10_17 (by decide) rfl (by decide) rfl d_X10_close_84 ?_
    refine xj_iload_n E d_X10_close_87 rfl ?_
    refine xj_iald E (by decide) hin d_X10_close_88 ?_
    refine xj_aload_n E d_X10_close_89 rfl ?_
    refine xj_geta E fl_X10_20 (by decide) rfl (by decide) rfl d_X10_close_90 ?_
    refine xj_iload_n E d_X10_close_93 rfl ?_
    refine xj_iald E (by decide) hin d_X10_close_94 ?_
    refine xj_st (st' := [.inl (mcw μ j), .inl (nI (mct μ j)), .inr (24, 0)]) (by rw [hcj, e35, e36, hcar.2.1]; try rfl) ?_
    have hreq : mca μ j = q0.1 := by
      rw [hcj, hck, e34, hcar.1.1, (hc.2 k q0 hq0).1] at h79
      exact (nI_eq (by omega) (by omega)).mp h79
    have hpr : clPair (mnb μ r) (mbt μ r) (mbv μ r) (mnc μ) (mca μ) (mct μ) (mcw μ) (mct μ j) (mcw μ j) := Or.inr ⟨j, hlt, by rw [hreq]; exact (hs.2.1 _ (List.mem_of_getElem? hq0)).reach, rfl, rfl⟩
    have hcd := mCand_c (mnb μ r) (mbt μ r) (mbv μ r) (mnc μ) (mct μ) (mcw μ) hlt
    refine xj_callV E (k_X10_add l G hI (mct μ j) (mcw μ j) l1 _ hc (by omega) (by omega) hty (Classical.byCases (p := (mct μ j, mcw μ j) ∈ l1) Or.inl (fun z => Or.inr (by have := hs.room _ _ _ _ _ _ _ hpr hcd z; omega)))) cw_X10_136 cv_X10_add (by decide) rfl rfl rfl ⟨by decide, by decide⟩ (Nat.le_of_ble_eq_true rfl) d_X10_close_95 ⟨Nat.zero_le _, Nat.zero_le _⟩ (fun r95 μ95 ho95 hp95 => ?_)
    obtain ⟨rfl, hc2, hfr2⟩ := hp95
    refine xj_iinc (v := nI (j + 1)) E d_X10_close_98 rfl (nI_inc j) rfl ?_
    refine xj_goto (tgt := 59) E d_X10_close_101 (by decide) ?_
    first
      | exact ih (mnc μ - (j + 1)) (by omega) (j + 1) _ (mAdd (mct μ j) (mcw μ j) l1) q0 rfl (by omega) (hfr.tr hfr2) hc2 (hs.add _ _ _ _ _ _ _ hpr hcd) (fun k' hk' => mAdd_keep (hb k' hk')) (fun i q hi hq j' hj' e => mAdd_keep (hcl i q hi (by rw [mAdd_pre (by omega)] at hq; exact hq) j' hj' e)) (mAdd_at hq0) (fun j' hj' e => by
          by_cases z : j' = j
          · subst z; exact mAdd_mem
          · exact mAdd_keep (hinv j' (by omega) e)) hx
      | exact ih (mnc μ - (j + 1)) (by omega) (j + 1) _ l1 q0 rfl (by omega) hfr hc hs hb hcl hq0 (fun j' hj' e => by
          by_cases z : j' = j
          · subst z
            exfalso
            apply h79
            rw [hcj, hck, e34, hcar.1.1, (hc.2 k q0 hq0).1, e]
          · exact hinv j' (by omega) e) hx
  have lp2 : ∀ (Q : State → Prop) (n k : Nat) (μ1 : Mem) (l1 : PL), mnb μ r + mnc μ - k = n → k ≤ l1.length → frC μ μ1 → cIs μ1 l1 → mSnd (mnb μ r) (mbt μ r) (mbv μ r) (mnc μ) (mca μ) (mct μ) (mcw μ) l1 → (∀ k', k' < mnb μ r → (mbt μ r k', mbv μ r k') ∈ l1) → (∀ (i : Nat) (q : Nat × Int32), i < k → l1[i]? = some q → ∀ j, j < mnc μ → mca μ j = q.1 → (mct μ j, mcw μ j) ∈ l1) → (∀ (μ2 : Mem) (l2 : PL) (k : Nat), frC μ μ2 → cIs μ2 l2 → mSnd (mnb μ r) (mbt μ r) (mbv μ r) (mnc μ) (mca μ) (mct μ) (mcw μ) l2 → (∀ k', k' < mnb μ r → (mbt μ r k', mbv μ r k') ∈ l2) → (∀ (i : Nat) (q : Nat × Int32), i < l2.length → l2[i]? = some q → ∀ j, j < mnc μ → mca μ j = q.1 → (mct μ j, mcw μ j) ∈ l2) → XJ G (xA G) 4 p l e (xr 1) s m args below meth c 0 0 Q 110 [some (.inr (24, 0)), some (.inl (nI r)), some (.inl (nI k)), none] [] μ2) → XJ G (xA G) 4 p l e (xr 1) s m args below meth c 0 0 Q 49 [some (.inr (24, 0)), some (.inl (nI r)), some (.inl (nI k)), none] [] μ1 := by
    intro Q n
    induction n using Nat.strongRecOn with
    | _ n ih =>
    intro k μ1 l1 hn hk hfr hc hs hb hcl hx
    have hlen := hs.len
    refine xj_iload_n E d_X10_close_49 rfl ?_
    refine xj_aload_n E d_X10_close_50 rfl ?_
    refine xj_geti E fl_X10_133 (by decide) rfl (by decide) rfl d_X10_close_51 ?_
    refine xj_icmp_ge (tgt := 110) E d_X10_close_54 (by decide) (fun h54 => ?_) (fun h54 => ?_)
    · have hk8 : k = l1.length := by
        have := ge_nI (b := k) (by rw [← hc.1]; exact h54) (by omega) (by omega)
        omega
      subst hk8
      exact hx _ l1 _ hfr hc hs hb hcl
    have hlt : k < l1.length := ng_nI (b := k) (by rw [← hc.1]; exact h54) (by omega) (by omega)
    refine xj_iconst (v := 0) E d_X10_close_57 (by decide) ?_
    refine xj_istore_n E d_X10_close_58 (by decide) rfl ?_
    refine lp3 Q k (mnc μ) 0 μ1 l1 _ (by omega) (by omega) hfr hc hs hb hcl (List.getElem?_eq_getElem hlt) (fun j' hj' => by omega) (fun μ2 l2 hfr2 hc2 hs2 hb2 hcl2 hk2 => ?_)
    refine xj_iinc (v := nI (k + 1)) E d_X10_close_104 rfl (nI_inc k) rfl ?_
    refine xj_goto (tgt := 49) E d_X10_close_107 (by decide) ?_
    exact ih (mnb μ r + mnc μ - (k + 1)) (by omega) (k + 1) _ l2 rfl hk2 hfr2 hc2 hs2 hb2 hcl2 hx
  have lp1 : ∀ (Q : State → Prop) (n k : Nat) (μ1 : Mem) (l1 : PL), mnb μ r - k = n → k ≤ mnb μ r → frC μ μ1 → cIs μ1 l1 → mSnd (mnb μ r) (mbt μ r) (mbv μ r) (mnc μ) (mca μ) (mct μ) (mcw μ) l1 → (∀ k', k' < k → (mbt μ r k', mbv μ r k') ∈ l1) → (∀ (μ2 : Mem) (l2 : PL), frC μ μ2 → cIs μ2 l2 → mSnd (mnb μ r) (mbt μ r) (mbv μ r) (mnc μ) (mca μ) (mct μ) (mcw μ) l2 → (∀ k', k' < mnb μ r → (mbt μ r k', mbv μ r k') ∈ l2) → XJ G (xA G) 4 p l e (xr 1) s m args below meth c 0 0 Q 47 [some (.inr (24, 0)), some (.inl (nI r)), some (.inl (nI (mnb μ r))), none] [] μ2) → XJ G (xA G) 4 p l e (xr 1) s m args below meth c 0 0 Q 7 [some (.inr (24, 0)), some (.inl (nI r)), some (.inl (nI k)), none] [] μ1 := by
    intro Q n
    induction n using Nat.strongRecOn with
    | _ n ih =>
    intro k μ1 l1 hn hk hfr hc hs hinv hx
    have hlen := hs.len
    have hty := mOK_lt hT hR hs.2.1
    have e49 := hfr.1 49 (by decide) (by decide)
    have hcr : (nI r).toNatClampNeg = r := cl_nI (by omega)
    refine xj_iload_n E d_X10_close_7 rfl ?_
    refine xj_aload_n E d_X10_close_8 rfl ?_
    refine xj_geta E fl_X10_50 (by decide) rfl (by decide) rfl d_X10_close_9 ?_
    refine xj_iload_n E d_X10_close_12 rfl ?_
    refine xj_iald E (by decide) (show vp_in (nI r) 28 from in_nI hr28 (by omega)) d_X10_close_13 ?_
    refine xj_st (st' := [.inl (nI (mnb μ r)), .inl (nI k)]) (by rw [hcr, e49, hR.1.1]) ?_
    refine xj_icmp_ge (tgt := 47) E d_X10_close_14 (by decide) (fun h14 => ?_) (fun h14 => ?_)
    · have hk8 : k = mnb μ r := by
        have := ge_nI h14 (by omega) (by omega)
        omega
      subst hk8
      exact hx _ l1 hfr hc hs hinv
    have hlt : k < mnb μ r := ng_nI h14 (by omega) (by omega)
    have hin : vp_in (nI (4 * r + k)) 112 := in_nI (by omega) (by omega)
    have hcj : (nI (4 * r + k)).toNatClampNeg = 4 * r + k := cl_nI (by omega)
    have e50 := hfr.1 50 (by decide) (by decide)
    have e51 := hfr.1 51 (by decide) (by decide)
    have hrow := hR.2 k hlt
    refine xj_aload_n E d_X10_close_17 rfl ?_
    refine xj_aload_n E d_X10_close_18 rfl ?_
    refine xj_geta E fl_X10_53 (by decide) rfl (by decide) rfl d_X10_close_19 ?_
    refine xj_iconst (v := 4) E d_X10_close_22 (by decide) ?_
    refine xj_iload_n E d_X10_close_23 rfl ?_
    refine xj_imul E d_X10_close_24 ?_
    refine xj_iload_n E d_X10_close_25 rfl ?_
    refine xj_iadd E d_X10_close_26 ?_
    refine xj_st (st' := [.inl (nI (4 * r + k)), .inr (50, 0), .inr (24, 0)]) (by rw [← ix4]) ?_
    refine xj_iald E (by decide) hin d_X10_close_27 ?_
    refine xj_st (st' := [.inl (nI (mbt μ r k)), .inr (24, 0)]) (by rw [hcj, e50, hrow.1]) ?_
    refine xj_aload_n E d_X10_close_28 rfl ?_
    refine xj_geta E fl_X10_56 (by decide) rfl (by decide) rfl d_X10_close_29 ?_
    refine xj_iconst (v := 4) E d_X10_close_32 (by decide) ?_
    refine xj_iload_n E d_X10_close_33 rfl ?_
    refine xj_imul E d_X10_close_34 ?_
    refine xj_iload_n E d_X10_close_35 rfl ?_
    refine xj_iadd E d_X10_close_36 ?_
    refine xj_st (st' := [.inl (nI (4 * r + k)), .inr (51, 0), .inl (nI (mbt μ r k)), .inr (24, 0)]) (by rw [← ix4]) ?_
    refine xj_iald E (by decide) hin d_X10_close_37 ?_
    refine xj_st (st' := [.inl (mbv μ r k), .inl (nI (mbt μ r k)), .inr (24, 0)]) (by rw [hcj, e51]; rfl) ?_
    have hpr : clPair (mnb μ r) (mbt μ r) (mbv μ r) (mnc μ) (mca μ) (mct μ) (mcw μ) (mbt μ r k) (mbv μ r k) := Or.inl ⟨k, hlt, rfl, rfl⟩
    have hcd := mCand_b (mnb μ r) (mbt μ r) (mbv μ r) (mnc μ) (mct μ) (mcw μ) hlt
    refine xj_callV E (k_X10_add l G hI (mbt μ r k) (mbv μ r k) l1 _ hc (by omega) (by omega) hty (Classical.byCases (p := (mbt μ r k, mbv μ r k) ∈ l1) Or.inl (fun z => Or.inr (by have := hs.room _ _ _ _ _ _ _ hpr hcd z; omega)))) cw_X10_136 cv_X10_add (by decide) rfl rfl rfl ⟨by decide, by decide⟩ (Nat.le_of_ble_eq_true rfl) d_X10_close_38 ⟨Nat.zero_le _, Nat.zero_le _⟩ (fun r38 μ38 ho38 hp38 => ?_)
    obtain ⟨rfl, hc2, hfr2⟩ := hp38
    refine xj_iinc (v := nI (k + 1)) E d_X10_close_41 rfl (nI_inc k) rfl ?_
    refine xj_goto (tgt := 7) E d_X10_close_44 (by decide) ?_
    exact ih (mnb μ r - (k + 1)) (by omega) (k + 1) _ (mAdd (mbt μ r k) (mbv μ r k) l1) rfl (by omega) (hfr.tr hfr2) hc2 (hs.add _ _ _ _ _ _ _ hpr hcd) (fun k' hk' => by
      by_cases z : k' = k
      · subst z; exact mAdd_mem
      · exact mAdd_keep (hinv k' (by omega))) hx
  refine xj_aload_n E d_X10_close_0 rfl ?_
  refine xj_iconst (v := 0) E d_X10_close_1 (by decide) ?_
  refine xj_put E fp_X10_133 (by decide) rfl (by decide) rfl (narrow_i _) d_X10_close_2 ?_
  refine xj_iconst (v := 0) E d_X10_close_5 (by decide) ?_
  refine xj_istore_n E d_X10_close_6 (by decide) rfl ?_
  refine lp1 _ (mnb μ r) 0 _ [] (by omega) (by omega) (frG_o (by decide)) (LIs.nil (mset_at _ _ _ _ _)) ⟨List.nodup_nil, fun q hq => absurd hq List.not_mem_nil, fun q hq => absurd hq List.not_mem_nil⟩ (fun k' hk' => by omega) (fun μ2 l2 hfr2 hc2 hs2 hb2 => ?_)
  refine xj_iconst (v := 0) E d_X10_close_47 (by decide) ?_
  refine xj_istore_n E d_X10_close_48 (by decide) rfl ?_
  refine lp2 _ (mnb μ r + mnc μ) 0 μ2 l2 (by omega) (by omega) hfr2 hc2 hs2 hb2 (fun i q hi => by omega) (fun μ3 l3 k hfr3 hc3 hs3 hb3 hcl3 => ?_)
  exact xj_vret E hr hlk d_X10_close_110 (⟨rfl, l3, hc3, mOK.of _ _ _ _ _ _ _ hs3 hb3 (fun q hq j hj e => by obtain ⟨i, hi⟩ := List.getElem?_of_mem hq; exact hcl3 i q ((List.getElem?_eq_some_iff.mp hi).1) hi j hj e), hs3.len _ _ _ _ _ _ _, hfr3⟩)
