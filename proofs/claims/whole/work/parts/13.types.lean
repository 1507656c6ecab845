section CLO3
variable (nb : Nat) (bt : Nat → Nat) (bv : Nat → Int32) (nc : Nat) (ca ct : Nat → Nat) (cw : Nat → Int32)
def cBase (k : Nat) (S : CS) : Prop := cSnd nb bt bv nc ca ct cw S ∧ ∀ k', k' < k → cCov S (bt k') (bv k')
def cIn (S0 : CS) (k : Nat) (S : CS) : Prop := cSnd nb bt bv nc ca ct cw S ∧ (∀ k', k' < nb → cCov S (bt k') (bv k')) ∧ (∀ t, t < 8 → S0.1 t = 1 → S.1 t = 1) ∧ (∀ k', k' < k → S0.1 (ca k') = 1 → cCov S (ct k') (cw k')) ∧ (cClosed nc ca ct cw S0 → S = S0)
def cOut (r : Nat) (S : CS) : Prop := cSnd nb bt bv nc ca ct cw S ∧ (∀ k', k' < nb → cCov S (bt k') (bv k')) ∧ (cClosed nc ca ct cw S ∨ r + 1 ≤ cdn S.1 8)
variable {nb bt bv nc ca ct cw}
theorem cBase_0 {S : CS} (h0 : ∀ t, t < 8 → S.1 t = 0) (h1 : S.2.2 = 0) : cBase nb bt bv nc ca ct cw 0 S := by
  refine ⟨⟨⟨fun t ht => Or.inl (h0 t ht), Or.inl h1⟩, fun t ht q => ?_, fun q => ?_⟩, fun k hk => by omega⟩
  · rw [h0 t ht] at q; exact absurd q i0_1
  · rw [h1] at q; exact absurd q i0_1
theorem cBase_put {S : CS} {k : Nat} (hk : k < nb) (ht : bt k < 8) (h : cBase nb bt bv nc ca ct cw k S) : cBase nb bt bv nc ca ct cw (k + 1) (pput (bt k) (bv k) S) := by
  refine ⟨h.1.put _ _ _ _ _ _ _ ht (Or.inl ⟨k, hk, rfl, rfl⟩), fun k' hk' => ?_⟩
  by_cases q : k' = k
  · subst q; exact pput_cov h.1.1 ht
  · exact pput_keep (h.2 k' (by omega))
theorem cOut_0 {S : CS} (hca : ∀ k, k < nc → ca k < 8) (h : cBase nb bt bv nc ca ct cw nb S) : cOut nb bt bv nc ca ct cw 0 S := ⟨h.1, h.2, cFirst _ _ _ _ hca⟩
theorem cOut_in {S : CS} {r : Nat} (h : cOut nb bt bv nc ca ct cw r S) : cIn nb bt bv nc ca ct cw S 0 S := ⟨h.1, h.2.1, fun _ _ q => q, fun k hk => by omega, fun _ => rfl⟩
theorem cIn_put {S0 S : CS} {k : Nat} (hk : k < nc) (hca : ca k < 8) (hct : ct k < 8) (h : cIn nb bt bv nc ca ct cw S0 k S) (h1 : ¬ S.1 (ca k) = 0) : cIn nb bt bv nc ca ct cw S0 (k + 1) (pput (ct k) (cw k) S) := by
  have h2 : S.1 (ca k) = 1 := (h.1.1.1 _ hca).resolve_left h1
  have hp : clPair nb bt bv nc ca ct cw (ct k) (cw k) := Or.inr ⟨k, hk, (h.1.2.1 _ hca h2).reach, rfl, rfl⟩
  refine ⟨h.1.put _ _ _ _ _ _ _ hct hp, fun k' hk' => pput_keep (h.2.1 k' hk'), fun t ht q => pput_grow (h.2.2.1 t ht q), fun k' hk' q => ?_, fun q => ?_⟩
  · by_cases e : k' = k
    · subst e; exact pput_cov h.1.1 hct
    · exact pput_keep (h.2.2.2.1 k' (by omega) q)
  · have e := h.2.2.2.2 q
    subst e
    exact pput_same (q k hk h2)
theorem cIn_no {S0 S : CS} {k : Nat} (hca : ca k < 8) (h : cIn nb bt bv nc ca ct cw S0 k S) (h1 : S.1 (ca k) = 0) : cIn nb bt bv nc ca ct cw S0 (k + 1) S := by
  refine ⟨h.1, h.2.1, h.2.2.1, fun k' hk' q => ?_, h.2.2.2.2⟩
  by_cases e : k' = k
  · subst e
    have := h.2.2.1 _ hca q
    rw [h1] at this
    exact absurd this i0_1
  · exact h.2.2.2.1 k' (by omega) q
theorem cOut_next {S0 S : CS} {r : Nat} (hca : ∀ k, k < nc → ca k < 8) (h0 : cOut nb bt bv nc ca ct cw r S0) (h : cIn nb bt bv nc ca ct cw S0 nc S) : cOut nb bt bv nc ca ct cw (r + 1) S :=
  ⟨h.1, h.2.1, cRound (nt := 0) _ _ _ _ hca h.2.2.1 h.2.2.2.1 h.2.2.2.2 h0.2.2⟩
theorem cOut_end {S : CS} {nt : Nat} (hb : ∀ k, k < nb → bt k < nt) (hc : ∀ k, k < nc → ct k < nt) (h : cOut nb bt bv nc ca ct cw nt S) : clOK nb bt bv nc ca ct cw S := clOK.of _ _ _ _ _ _ _ h.1 h.2.1 (cLast _ _ _ _ _ _ _ h.1 hb hc h.2.2)
end CLO3
/-! the rows of bindings of the class, as data -/
def xnb (μ : Mem) (b : Nat) : Nat := (μ 4 b 0).toNatClampNeg
def xbt (μ : Mem) (b k : Nat) : Nat := (μ 5 b k).toNatClampNeg
def xbv (μ : Mem) (b k : Nat) : Int32 := μ 6 b k
def xca (μ : Mem) (k : Nat) : Nat := (μ 3 0 k).toNatClampNeg
abbrev xPair (μ : Mem) (b : Nat) : Nat → Int32 → Prop := clPair (xnb μ b) (xbt μ b) (xbv μ b) (xnb μ 0) (xca μ) (xbt μ 0) (xbv μ 0)
abbrev xReach (μ : Mem) (b : Nat) : Nat → Prop := clReach (xnb μ b) (xbt μ b) (xnb μ 0) (xca μ) (xbt μ 0)
abbrev xConf (μ : Mem) (b : Nat) : Prop := clConf (xnb μ b) (xbt μ b) (xbv μ b) (xnb μ 0) (xca μ) (xbt μ 0) (xbv μ 0)
abbrev xClOK (μ : Mem) (b : Nat) (S : CS) : Prop := clOK (xnb μ b) (xbt μ b) (xbv μ b) (xnb μ 0) (xca μ) (xbt μ 0) (xbv μ 0) S
/-- a row is as it must be: its count, its types -/
def xRow (μ : Mem) (b nt : Nat) : Prop := (∃ n, n ≤ xln 5 b ∧ μ 4 b 0 = nI n) ∧ ∀ k, k < xnb μ b → ∃ t, t < nt ∧ μ 5 b k = nI t
def xTyp (μ : Mem) (nt : Nat) : Prop := nt ≤ 8 ∧ μ 1 0 0 = nI nt ∧ xRow μ 0 nt ∧ ∀ k, k < xnb μ 0 → ∃ t, t < nt ∧ μ 3 0 k = nI t
theorem xln5 (b : Nat) : xln 5 b ≤ 16 := by
  show (if b = 0 then 16 else 4) ≤ 16
  split <;> omega
theorem xRow.cnt {μ : Mem} {b nt : Nat} (h : xRow μ b nt) : μ 4 b 0 = nI (xnb μ b) ∧ xnb μ b ≤ xln 5 b := by
  obtain ⟨⟨n, hn, e⟩, -⟩ := h
  have h5 := xln5 b
  have : xnb μ b = n := by
    unfold xnb
    rw [e]
    exact cl_nI (by omega)
  rw [this]
  exact ⟨e, hn⟩
theorem xRow.typ {μ : Mem} {b nt k : Nat} (h : xRow μ b nt) (ht : nt ≤ 8) (hk : k < xnb μ b) : vp_in (μ 5 b k) 8 ∧ xbt μ b k < nt := by
  obtain ⟨t, h1, h2⟩ := h.2 k hk
  unfold xbt
  rw [h2, cl_nI (by omega)]
  exact ⟨in_nI (by omega) (by omega), h1⟩
theorem xTyp.car {μ : Mem} {nt k : Nat} (h : xTyp μ nt) (hk : k < xnb μ 0) : vp_in (μ 3 0 k) 8 ∧ xca μ k < nt := by
  obtain ⟨t, h1, h2⟩ := h.2.2.2 k hk
  have := h.1
  unfold xca
  rw [h2, cl_nI (by omega)]
  exact ⟨in_nI (by omega) (by omega), h1⟩
theorem xj_forget {G : XG} {A : Nat → Prop} {nL : Nat} {p : Program} {l : Launch} {e : Env} {R : Room} {s : State} {m : MethodId} {args : Array Value} {below : List Frame} {meth : Method} {c : Code} {cs sl : Nat} {Q : State → Prop} {pc : Nat} {L : List (Option XV)} {st : List XV} {μ : Mem} (j : Nat) (kk : XJ G A nL p l e R s m args below meth c cs sl Q pc (L.set j none) st μ) : XJ G A nL p l e R s m args below meth c cs sl Q pc L st μ :=
  xj_less (List.length_set ..) (fun k v h => by
    by_cases q : j = k
    · subst q
      by_cases hl : j < L.length
      · rw [List.getElem?_set_self hl] at h; cases h
      · rw [List.getElem?_eq_none (by simp; omega)] at h; cases h
    · rw [List.getElem?_set_ne q] at h; exact h) kk

set_option maxRecDepth 100000 in
set_option maxHeartbeats 4000000 in
/-- X0 forget -/
theorem k_X0_forget (l : Launch) (G : XG) (hI : XI G)  (μ : Mem)  : XMet l G y_X0_forget c_X0_forget 1 none 0 [.inr (1, 0)] μ (fun r μ' => r = none ∧ μ' = mset (mset μ 1 0 0 0) 4 0 0 0) := by
  refine xj_met (by decide) hI (Nat.le_of_ble_eq_true rfl) ?_
  intro p e s m args below meth c E hr hlk
  have E : XE G (xA G) RX0 c_X0_forget 1 p s m args c := E
  refine xj_loc (L' := [some (.inr (1, 0))]) rfl ?_
  refine xj_aload_n E d_X0_forget_0 rfl ?_
  refine xj_iconst (v := 0) E d_X0_forget_1 (by decide) ?_
  refine xj_put E fp_X0_28 (by decide) rfl (by decide) rfl (narrow_i _) d_X0_forget_2 ?_
  refine xj_aload_n E d_X0_forget_5 rfl ?_
  refine xj_geta E fl_X0_24 (by decide) rfl (by decide) rfl d_X0_forget_6 ?_
  refine xj_iconst (v := 0) E d_X0_forget_9 (by decide) ?_
  refine xj_put E fp_X0_32 (by decide) rfl (by decide) rfl (narrow_i _) d_X0_forget_10 ?_
  exact xj_vret E hr hlk d_X0_forget_13 ⟨rfl, rfl⟩

set_option maxRecDepth 100000 in
set_option maxHeartbeats 4000000 in
/-- X0 has -/
theorem k_X0_has (l : Launch) (G : XG) (hI : XI G) (x : Int32) (μ : Mem)  : XMet l G y_X0_has c_X0_has 2 (some .boolean) 0 [.inr (1, 0), .inl x] μ (fun r μ' => r = some (.inl (if x < 0 then 0 else if μ 1 0 0 ≤ x then 0 else 1)) ∧ μ' = μ) := by
  refine xj_met (by decide) hI (Nat.le_of_ble_eq_true rfl) ?_
  intro p e s m args below meth c E hr hlk
  have E : XE G (xA G) RX0 c_X0_has 2 p s m args c := E
  refine xj_loc (L' := [some (.inr (1, 0)), some (.inl x)]) rfl ?_
  refine xj_iload_n E d_X0_has_0 rfl ?_
  refine xj_if_lt (tgt := 16) E d_X0_has_1 (by decide) (fun h1 => ?_) (fun h1 => ?_)
  · refine xj_iconst (v := 0) E d_X0_has_16 (by decide) ?_
    exact xj_zret E hr hlk (by decide) d_X0_has_17 (by first | exact ⟨by rw [if_pos h1], rfl⟩ | exact ⟨by rw [if_neg h1, if_pos h9], rfl⟩ | exact ⟨by rw [if_neg h1, if_neg h9], rfl⟩)
  refine xj_iload_n E d_X0_has_4 rfl ?_
  refine xj_aload_n E d_X0_has_5 rfl ?_
  refine xj_geti E fl_X0_28 (by decide) rfl (by decide) rfl d_X0_has_6 ?_
  refine xj_icmp_ge (tgt := 16) E d_X0_has_9 (by decide) (fun h9 => ?_) (fun h9 => ?_)
  · refine xj_iconst (v := 0) E d_X0_has_16 (by decide) ?_
    exact xj_zret E hr hlk (by decide) d_X0_has_17 (by first | exact ⟨by rw [if_pos h1], rfl⟩ | exact ⟨by rw [if_neg h1, if_pos h9], rfl⟩ | exact ⟨by rw [if_neg h1, if_neg h9], rfl⟩)
  refine xj_iconst (v := 1) E d_X0_has_12 (by decide) ?_
  refine xj_goto (tgt := 17) E d_X0_has_13 (by decide) ?_
  exact xj_zret E hr hlk (by decide) d_X0_has_17 (by first | exact ⟨by rw [if_pos h1], rfl⟩ | exact ⟨by rw [if_neg h1, if_pos h9], rfl⟩ | exact ⟨by rw [if_neg h1, if_neg h9], rfl⟩)

set_option maxRecDepth 100000 in
set_option maxHeartbeats 4000000 in
/-- X0 declare -/
theorem k_X0_declare (l : Launch) (G : XG) (hI : XI G) (z : Int32) (μ : Mem) (hz : z = 0 ∨ z = 1) (hc : vp_in (μ 1 0 0) 8) : XMet l G y_X0_declare c_X0_declare 2 (some .int) 0 [.inr (1, 0), .inl z] μ (fun r μ' => r = some (.inl (μ 1 0 0 + 1 - 1)) ∧ μ' = mset (mset μ 2 0 (μ 1 0 0).toNatClampNeg z) 1 0 0 (μ 1 0 0 + 1)) := by
  refine xj_met (by decide) hI (Nat.le_of_ble_eq_true rfl) ?_
  intro p e s m args below meth c E hr hlk
  have E : XE G (xA G) RX0 c_X0_declare 2 p s m args c := E
  refine xj_loc (L' := [some (.inr (1, 0)), some (.inl z)]) rfl ?_
  refine xj_aload_n E d_X0_declare_0 rfl ?_
  refine xj_geta E fl_X0_9 (by decide) rfl (by decide) rfl d_X0_declare_1 ?_
  refine xj_aload_n E d_X0_declare_4 rfl ?_
  refine xj_geti E fl_X0_28 (by decide) rfl (by decide) rfl d_X0_declare_5 ?_
  refine xj_iload_n E d_X0_declare_8 rfl ?_
  refine xj_zast E (by decide) hc hz d_X0_declare_9 ?_
  refine xj_aload_n E d_X0_declare_10 rfl ?_
  refine xj_dup E d_X0_declare_11 ?_
  refine xj_geti E fl_X0_28 (by decide) rfl (by decide) rfl d_X0_declare_12 ?_
  refine xj_iconst (v := 1) E d_X0_declare_15 (by decide) ?_
  refine xj_iadd E d_X0_declare_16 ?_
  refine xj_put E fp_X0_28 (by decide) rfl (by decide) rfl (narrow_i _) d_X0_declare_17 ?_
  refine xj_aload_n E d_X0_declare_20 rfl ?_
  refine xj_geti E fl_X0_28 (by decide) rfl (by decide) rfl d_X0_declare_21 ?_
  refine xj_iconst (v := 1) E d_X0_declare_24 (by decide) ?_
  refine xj_isub E d_X0_declare_25 ?_
  exact xj_iret E hr hlk d_X0_declare_26 ⟨rfl, rfl⟩

set_option maxRecDepth 100000 in
set_option maxHeartbeats 4000000 in
/-- X0 valueThatMatters -/
theorem k_X0_valueThatMatters (l : Launch) (G : XG) (hI : XI G) (t v : Int32) (μ : Mem) (ht : vp_in t 8) : XMet l G y_X0_valueThatMatters c_X0_valueThatMatters 3 (some .int) 0 [.inr (1, 0), .inl t, .inl v] μ (fun r μ' => r = some (.inl (if μ 2 0 t.toNatClampNeg = 0 then 0 else v)) ∧ μ' = μ) := by
  refine xj_met (by decide) hI (Nat.le_of_ble_eq_true rfl) ?_
  intro p e s m args below meth c E hr hlk
  have E : XE G (xA G) RX0 c_X0_valueThatMatters 3 p s m args c := E
  refine xj_loc (L' := [some (.inr (1, 0)), some (.inl t), some (.inl v)]) rfl ?_
  refine xj_aload_n E d_X0_valueThatMatters_0 rfl ?_
  refine xj_geta E fl_X0_9 (by decide) rfl (by decide) rfl d_X0_valueThatMatters_1 ?_
  refine xj_iload_n E d_X0_valueThatMatters_4 rfl ?_
  refine xj_zald E (by decide) ht d_X0_valueThatMatters_5 ?_
  refine xj_if_eq (tgt := 13) E d_X0_valueThatMatters_6 (by decide) (fun h6 => ?_) (fun h6 => ?_)
  · refine xj_iconst (v := 0) E d_X0_valueThatMatters_13 (by decide) ?_
    exact xj_iret E hr hlk d_X0_valueThatMatters_14 (by first | exact ⟨by rw [if_pos h6], rfl⟩ | exact ⟨by rw [if_neg h6], rfl⟩)
  refine xj_iload_n E d_X0_valueThatMatters_9 rfl ?_
  refine xj_goto (tgt := 14) E d_X0_valueThatMatters_10 (by decide) ?_
  exact xj_iret E hr hlk d_X0_valueThatMatters_14 (by first | exact ⟨by rw [if_pos h6], rfl⟩ | exact ⟨by rw [if_neg h6], rfl⟩)

set_option maxRecDepth 100000 in
set_option maxHeartbeats 4000000 in
/-- X0 addCarried -/
theorem k_X0_addCarried (l : Launch) (G : XG) (hI : XI G) (a t v : Int32) (μ : Mem) (ht : vp_in t 8) (hc : vp_in (μ 4 0 0) 16) (hlt : μ 4 0 0 < nI 16) : XMet l G y_X0_addCarried c_X0_addCarried 4 none 2 [.inr (1, 0), .inl a, .inl t, .inl v] μ (fun r μ' => r = none ∧ μ' = mset (mset (mset (mset μ 3 0 (μ 4 0 0).toNatClampNeg a) 5 0 (μ 4 0 0).toNatClampNeg t) 6 0 (μ 4 0 0).toNatClampNeg (if μ 2 0 t.toNatClampNeg = 0 then 0 else v)) 4 0 0 (μ 4 0 0 + 1)) := by
  refine xj_met (by decide) hI (Nat.le_of_ble_eq_true rfl) ?_
  intro p e s m args below meth c E hr hlk
  have E : XE G (xA G) RX0 c_X0_addCarried 4 p s m args c := E
  refine xj_loc (L' := [some (.inr (1, 0)), some (.inl a), some (.inl t), some (.inl v)]) rfl ?_
  refine xj_aload_n E d_X0_addCarried_0 rfl ?_
  refine xj_geta E fl_X0_15 (by decide) rfl (by decide) rfl d_X0_addCarried_1 ?_
  refine xj_aload_n E d_X0_addCarried_4 rfl ?_
  refine xj_geta E fl_X0_24 (by decide) rfl (by decide) rfl d_X0_addCarried_5 ?_
  refine xj_geti E fl_X0_32 (by decide) rfl (by decide) rfl d_X0_addCarried_8 ?_
  refine xj_iload_n E d_X0_addCarried_11 rfl ?_
  refine xj_iast E (by decide) hc d_X0_addCarried_12 ?_
  refine xj_aload_n E d_X0_addCarried_13 rfl ?_
  refine xj_geta E fl_X0_24 (by decide) rfl (by decide) rfl d_X0_addCarried_14 ?_
  refine xj_iload_n E d_X0_addCarried_17 rfl ?_
  refine xj_aload_n E d_X0_addCarried_18 rfl ?_
  refine xj_iload_n E d_X0_addCarried_19 rfl ?_
  refine xj_iload_n E d_X0_addCarried_20 rfl ?_
  refine xj_callV E (k_X0_valueThatMatters l G hI t v _ ht) cw_X0_33 cv_X0_valueThatMatters (by decide) rfl rfl rfl ⟨by decide, by decide⟩ (Nat.le_of_ble_eq_true rfl) d_X0_addCarried_21 ⟨by decide, by decide⟩ (fun r21 μ21 ho21 hp21 => ?_)
  obtain ⟨rfl, rfl⟩ := hp21
  refine xj_callV E (k_X1_add l G hI 0 t _ _ (fun q => hc (Or.inl q))) cw_X0_37 cv_X1_add (by decide) rfl rfl rfl ⟨by decide, by decide⟩ (Nat.le_of_ble_eq_true rfl) d_X0_addCarried_24 ⟨by decide, by decide⟩ (fun r24 μ24 ho24 hp24 => ?_)
  obtain ⟨rfl, rfl⟩ := hp24
  exact xj_vret E hr hlk d_X0_addCarried_27 ⟨rfl, if_pos hlt⟩

set_option maxRecDepth 100000 in
set_option maxHeartbeats 4000000 in
/-- X0 close -/
theorem k_X0_close (l : Launch) (G : XG) (hI : XI G) (b i nt : Nat) (μ : Mem) (hT : xTyp μ nt) (hR : xRow μ b nt) : XMet l G y_X0_close c_X0_close 5 none 1 [.inr (1, 0), .inr (4, b), .inr (16, i)] μ (fun r μ' => r = none ∧ ∃ S : CS, μ' = mcl μ i S ∧ xClOK μ b S) := by
  refine xj_met (by decide) hI (Nat.le_of_ble_eq_true rfl) ?_
  intro p e s m args below meth c E hr hlk
  have E : XE G (xA G) RX0 c_X0_close 5 p s m args c := E
  refine xj_loc (L' := [some (.inr (1, 0)), some (.inr (4, b)), some (.inr (16, i)), none, none]) rfl ?_
  have hnt := hT.1
  have hb := hR.cnt
  have hc := hT.2.2.1.cnt
  have hb5 := xln5 b
  have hc5 : xnb μ 0 ≤ 16 := hc.2
  have lp3 : ∀ (Q : State → Prop) (S0 : CS) (r n k : Nat) (S : CS), xnb μ 0 - k = n → k ≤ xnb μ 0 → cIn (xnb μ b) (xbt μ b) (xbv μ b) (xnb μ 0) (xca μ) (xbt μ 0) (xbv μ 0) S0 k S → (∀ (k : Nat) (S' : CS), cIn (xnb μ b) (xbt μ b) (xbv μ b) (xnb μ 0) (xca μ) (xbt μ 0) (xbv μ 0) S0 (xnb μ 0) S' → XJ G (xA G) 5 p l e (xr 1) s m args below meth c 0 0 Q 106 [some (.inr (1, 0)), some (.inr (4, b)), some (.inr (16, i)), some (.inl (nI r)), some (.inl (nI k))] [] (mcl μ i S')) → XJ G (xA G) 5 p l e (xr 1) s m args below meth c 0 0 Q 49 [some (.inr (1, 0)), some (.inr (4, b)), some (.inr (16, i)), some (.inl (nI r)), some (.inl (nI k))] [] (mcl μ i S) := by
    intro Q S0 r n
    induction n using Nat.strongRecOn with
    | _ n ih =>
    intro k S hn hk hinv hx
    refine xj_iload E d_X0_close_49 rfl ?_
    refine xj_aload_n E d_X0_close_51 rfl ?_
    refine xj_geta E fl_X0_24 (by decide) rfl (by decide) rfl d_X0_close_52 ?_
    refine xj_geti E fl_X0_32 (by decide) rfl (by decide) rfl d_X0_close_55 ?_
    refine xj_icmp_ge (tgt := 106) E d_X0_close_58 (by decide) (fun h58 => ?_) (fun h58 => ?_)
    · have hk8 : k = xnb μ 0 := by
        have := ge_nI (a := xnb μ 0) (b := k) (by rw [← hc.1]; exact h58) (by omega) (by omega)
        omega
      subst hk8
      exact hx _ S hinv
    have hlt : k < xnb μ 0 := ng_nI (a := xnb μ 0) (b := k) (by rw [← hc.1]; exact h58) (by omega) (by omega)
    have hin : vp_in (nI k) 16 := in_nI (by omega) (by omega)
    have hcl : (nI k).toNatClampNeg = k := cl_nI (by omega)
    refine xj_aload_n E d_X0_close_61 rfl ?_
    refine xj_geta E fl_X0_55 (by decide) rfl (by decide) rfl d_X0_close_62 ?_
    refine xj_aload_n E d_X0_close_65 rfl ?_
    refine xj_geta E fl_X0_15 (by decide) rfl (by decide) rfl d_X0_close_66 ?_
    refine xj_iload E d_X0_close_69 rfl ?_
    refine xj_iald E (by decide) hin d_X0_close_71 ?_
    refine xj_zald E (by decide) (by rw [hcl]; exact (hT.car hlt).1) d_X0_close_72 ?_
    refine xj_if_eq (tgt := 100) E d_X0_close_73 (by decide) (fun h73 => ?_) (fun h73 => ?_)
    · refine xj_iinc (v := nI (k + 1)) E d_X0_close_100 rfl (nI_inc k) rfl ?_
      refine xj_goto (tgt := 49) E d_X0_close_103 (by decide) ?_
      first
        | exact ih (xnb μ 0 - (k + 1)) (by omega) (k + 1) _ rfl (by omega) (cIn_put hlt (Nat.lt_of_lt_of_le (hT.car hlt).2 hnt) (Nat.lt_of_lt_of_le (hT.2.2.1.typ hnt hlt).2 hnt) hinv (by rw [hcl, mcl_17] at h73; exact h73)) hx
        | exact ih (xnb μ 0 - (k + 1)) (by omega) (k + 1) _ rfl (by omega) (cIn_no (Nat.lt_of_lt_of_le (hT.car hlt).2 hnt) hinv (by rw [hcl, mcl_17] at h73; exact h73)) hx
    refine xj_aload_n E d_X0_close_76 rfl ?_
    refine xj_aload_n E d_X0_close_77 rfl ?_
    refine xj_geta E fl_X0_24 (by decide) rfl (by decide) rfl d_X0_close_78 ?_
    refine xj_geta E fl_X0_46 (by decide) rfl (by decide) rfl d_X0_close_81 ?_
    refine xj_iload E d_X0_close_84 rfl ?_
    refine xj_iald E (by decide) hin d_X0_close_86 ?_
    refine xj_aload_n E d_X0_close_87 rfl ?_
    refine xj_geta E fl_X0_24 (by decide) rfl (by decide) rfl d_X0_close_88 ?_
    refine xj_geta E fl_X0_49 (by decide) rfl (by decide) rfl d_X0_close_91 ?_
    refine xj_iload E d_X0_close_94 rfl ?_
    refine xj_iald E (by decide) hin d_X0_close_96 ?_
    refine xj_callV E (k_X3_put l G hI i _ _ _ (by rw [hcl]; exact (hT.2.2.1.typ hnt hlt).1)) cw_X0_52 cv_X3_put (by decide) rfl rfl rfl ⟨by decide, by decide⟩ (Nat.le_of_ble_eq_true rfl) d_X0_close_97 ⟨by decide, by decide⟩ (fun r97 μ97 ho97 hp97 => ?_)
    obtain ⟨rfl, rfl⟩ := hp97
    refine xj_mem (μ' := mcl μ i (pput (xbt μ 0 k) (xbv μ 0 k) S)) (by rw [dS_mcl, mcl_mcl, hcl]; rfl) ?_
    refine xj_iinc (v := nI (k + 1)) E d_X0_close_100 rfl (nI_inc k) rfl ?_
    refine xj_goto (tgt := 49) E d_X0_close_103 (by decide) ?_
    first
      | exact ih (xnb μ 0 - (k + 1)) (by omega) (k + 1) _ rfl (by omega) (cIn_put hlt (Nat.lt_of_lt_of_le (hT.car hlt).2 hnt) (Nat.lt_of_lt_of_le (hT.2.2.1.typ hnt hlt).2 hnt) hinv (by rw [hcl, mcl_17] at h73; exact h73)) hx
      | exact ih (xnb μ 0 - (k + 1)) (by omega) (k + 1) _ rfl (by omega) (cIn_no (Nat.lt_of_lt_of_le (hT.car hlt).2 hnt) hinv (by rw [hcl, mcl_17] at h73; exact h73)) hx
  have lp2 : ∀ (Q : State → Prop) (n r : Nat) (S : CS), nt - r = n → r ≤ nt → cOut (xnb μ b) (xbt μ b) (xbv μ b) (xnb μ 0) (xca μ) (xbt μ 0) (xbv μ 0) r S → (∀ (S' : CS), cOut (xnb μ b) (xbt μ b) (xbv μ b) (xnb μ 0) (xca μ) (xbt μ 0) (xbv μ 0) nt S' → XJ G (xA G) 5 p l e (xr 1) s m args below meth c 0 0 Q 112 [some (.inr (1, 0)), some (.inr (4, b)), some (.inr (16, i)), some (.inl (nI nt)), none] [] (mcl μ i S')) → XJ G (xA G) 5 p l e (xr 1) s m args below meth c 0 0 Q 38 [some (.inr (1, 0)), some (.inr (4, b)), some (.inr (16, i)), some (.inl (nI r)), none] [] (mcl μ i S) := by
    intro Q n
    induction n using Nat.strongRecOn with
    | _ n ih =>
    intro r S hn hr0 hinv hx
    refine xj_iload_n E d_X0_close_38 rfl ?_
    refine xj_aload_n E d_X0_close_39 rfl ?_
    refine xj_geti E fl_X0_28 (by decide) rfl (by decide) rfl d_X0_close_40 ?_
    refine xj_icmp_ge (tgt := 112) E d_X0_close_43 (by decide) (fun h43 => ?_) (fun h43 => ?_)
    · have hk8 : r = nt := by
        have := ge_nI (a := nt) (b := r) (by rw [← hT.2.1]; exact h43) (by omega) (by omega)
        omega
      subst hk8
      exact hx S hinv
    have hlt : r < nt := ng_nI (a := nt) (b := r) (by rw [← hT.2.1]; exact h43) (by omega) (by omega)
    refine xj_iconst (v := 0) E d_X0_close_46 (by decide) ?_
    refine xj_istore E d_X0_close_47 (by decide) rfl ?_
    refine lp3 Q S r (xnb μ 0) 0 S (by omega) (by omega) (cOut_in hinv) (fun k S' hS' => ?_)
    refine xj_iinc (v := nI (r + 1)) E d_X0_close_106 rfl (nI_inc r) rfl ?_
    refine xj_goto (tgt := 38) E d_X0_close_109 (by decide) ?_
    refine xj_forget 4 ?_
    exact ih (nt - (r + 1)) (by omega) (r + 1) S' rfl (by omega) (cOut_next (fun k hk => Nat.lt_of_lt_of_le (hT.car hk).2 hnt) hinv hS') hx
  have lp1 : ∀ (Q : State → Prop) (n k : Nat) (S : CS), xnb μ b - k = n → k ≤ xnb μ b → cBase (xnb μ b) (xbt μ b) (xbv μ b) (xnb μ 0) (xca μ) (xbt μ 0) (xbv μ 0) k S → (∀ (S' : CS), cBase (xnb μ b) (xbt μ b) (xbv μ b) (xnb μ 0) (xca μ) (xbt μ 0) (xbv μ 0) (xnb μ b) S' → XJ G (xA G) 5 p l e (xr 1) s m args below meth c 0 0 Q 36 [some (.inr (1, 0)), some (.inr (4, b)), some (.inr (16, i)), some (.inl (nI (xnb μ b))), none] [] (mcl μ i S')) → XJ G (xA G) 5 p l e (xr 1) s m args below meth c 0 0 Q 6 [some (.inr (1, 0)), some (.inr (4, b)), some (.inr (16, i)), some (.inl (nI k)), none] [] (mcl μ i S) := by
    intro Q n
    induction n using Nat.strongRecOn with
    | _ n ih =>
    intro k S hn hk hinv hx
    refine xj_iload_n E d_X0_close_6 rfl ?_
    refine xj_aload_n E d_X0_close_7 rfl ?_
    refine xj_geti E fl_X0_32 (by decide) rfl (by decide) rfl d_X0_close_8 ?_
    refine xj_icmp_ge (tgt := 36) E d_X0_close_11 (by decide) (fun h11 => ?_) (fun h11 => ?_)
    · have hk8 : k = xnb μ b := by
        have := ge_nI (a := xnb μ b) (b := k) (by rw [← hb.1]; exact h11) (by omega) (by omega)
        omega
      subst hk8
      exact hx S hinv
    have hlt : k < xnb μ b := ng_nI (a := xnb μ b) (b := k) (by rw [← hb.1]; exact h11) (by omega) (by omega)
    have hin : vp_in (nI k) (xln 5 b) := in_nI (by omega) (by omega)
    have hcl : (nI k).toNatClampNeg = k := cl_nI (by omega)
    refine xj_aload_n E d_X0_close_14 rfl ?_
    refine xj_aload_n E d_X0_close_15 rfl ?_
    refine xj_geta E fl_X0_46 (by decide) rfl (by decide) rfl d_X0_close_16 ?_
    refine xj_iload_n E d_X0_close_19 rfl ?_
    refine xj_iald E (by decide) hin d_X0_close_20 ?_
    refine xj_aload_n E d_X0_close_21 rfl ?_
    refine xj_geta E fl_X0_49 (by decide) rfl (by decide) rfl d_X0_close_22 ?_
    refine xj_iload_n E d_X0_close_25 rfl ?_
    refine xj_iald E (by decide) hin d_X0_close_26 ?_
    refine xj_callV E (k_X3_put l G hI i _ _ _ (by rw [hcl]; exact (hR.typ hnt hlt).1)) cw_X0_52 cv_X3_put (by decide) rfl rfl rfl ⟨by decide, by decide⟩ (Nat.le_of_ble_eq_true rfl) d_X0_close_27 ⟨by decide, by decide⟩ (fun r27 μ27 ho27 hp27 => ?_)
    obtain ⟨rfl, rfl⟩ := hp27
    refine xj_mem (μ' := mcl μ i (pput (xbt μ b k) (xbv μ b k) S)) (by rw [dS_mcl, mcl_mcl, hcl]; rfl) ?_
    refine xj_iinc (v := nI (k + 1)) E d_X0_close_30 rfl (nI_inc k) rfl ?_
    refine xj_goto (tgt := 6) E d_X0_close_33 (by decide) ?_
    exact ih (xnb μ b - (k + 1)) (by omega) (k + 1) _ rfl (by omega) (cBase_put hlt (Nat.lt_of_lt_of_le (hR.typ hnt hlt).2 hnt) hinv) hx
  refine xj_aload_n E d_X0_close_0 rfl ?_
  refine xj_callV E (k_X3_forget l G hI i _) cw_X0_41 cv_X3_forget (by decide) rfl rfl rfl ⟨by decide, by decide⟩ (Nat.le_of_ble_eq_true rfl) d_X0_close_1 ⟨by decide, by decide⟩ (fun r1 μ1 ho1 hp1 => ?_)
  obtain ⟨rfl, S1, rfl, hS1, hS2⟩ := hp1
  refine xj_iconst (v := 0) E d_X0_close_4 (by decide) ?_
  refine xj_istore_n E d_X0_close_5 (by decide) rfl ?_
  refine lp1 _ (xnb μ b) 0 S1 (by omega) (by omega) (cBase_0 hS1 hS2) (fun S2 hB => ?_)
  refine xj_iconst (v := 0) E d_X0_close_36 (by decide) ?_
  refine xj_istore_n E d_X0_close_37 (by decide) rfl ?_
  refine lp2 _ nt 0 S2 (by omega) (by omega) (cOut_0 (fun k hk => Nat.lt_of_lt_of_le (hT.car hk).2 hnt) hB) (fun S3 hO => ?_)
  exact xj_vret E hr hlk d_X0_close_112 ⟨rfl, S3, rfl, cOut_end (fun k hk => (hR.typ hnt hk).2) (fun k hk => (hT.2.2.1.typ hnt hk).2) hO⟩
