/-- the reference's row of a place -/
def rq (q : Nat) : Nat := if q % 5 = 0 then 8 + q / 5 else 12 + 4 * (q / 5) + (q % 5 - 1)
theorem rq_own (j : Nat) : rq (5 * j) = 8 + j := by unfold rq; rw [if_pos (by omega)]; omega
theorem rq_m {j k : Nat} (h : k < 4) : rq (5 * j + 1 + k) = 12 + 4 * j + k := by unfold rq; rw [if_neg (by omega)]; omega
theorem rq_lt {q : Nat} (h : q < 20) : rq q < 28 := by unfold rq; split <;> omega
def mnt (μ : Mem) : Nat := (μ 24 0 1).toNatClampNeg
def mni (μ : Mem) : Nat := (μ 24 0 7).toNatClampNeg
def mnd (μ : Mem) : Nat := (μ 24 0 11).toNatClampNeg
def mnp (μ : Mem) : Nat := (μ 24 0 16).toNatClampNeg
def mnl (μ : Mem) (r : Nat) : Nat := (μ 52 0 r).toNatClampNeg
def mWF (μ : Mem) : Prop := mTyp μ (mnt μ) ∧ (μ 24 0 7 = nI (mni μ) ∧ mni μ ≤ 8) ∧ (μ 24 0 11 = nI (mnd μ) ∧ mnd μ ≤ 4) ∧ (μ 24 0 16 = nI (mnp μ) ∧ mnp μ ≤ 4) ∧ (∀ i, i < mni μ → mRow μ i (mnt μ)) ∧ ∀ q, q < 5 * mnp μ → mRow μ (rq q) (mnt μ) ∧ (μ 52 0 (rq q) = nI (mnl μ (rq q)) ∧ mnl μ (rq q) ≤ 4) ∧ ∀ k, k < mnl μ (rq q) → ∃ i, i < mni μ ∧ μ 53 0 (4 * rq q + k) = nI i
theorem frD.nt {μ μ' : Mem} (h : frD μ μ') : mnt μ' = mnt μ := by unfold mnt; rw [h.2 1 (by decide)]
theorem frD.ni {μ μ' : Mem} (h : frD μ μ') : mni μ' = mni μ := by unfold mni; rw [h.2 7 (by decide)]
theorem frD.nd {μ μ' : Mem} (h : frD μ μ') : mnd μ' = mnd μ := by unfold mnd; rw [h.2 11 (by decide)]
theorem frD.np {μ μ' : Mem} (h : frD μ μ') : mnp μ' = mnp μ := by unfold mnp; rw [h.2 16 (by decide)]
theorem frD.nl {μ μ' : Mem} (h : frD μ μ') (r : Nat) : mnl μ' r = mnl μ r := by unfold mnl; rw [h.1 52 (by decide)]
theorem frD.wf {μ μ' : Mem} (h : frD μ μ') (hw : mWF μ) : mWF μ' := by
  unfold mWF at *
  rw [h.nt, h.ni, h.nd, h.np, h.typ, h.2 7 (by decide), h.2 11 (by decide), h.2 16 (by decide), h.1 52 (by decide), h.1 53 (by decide)]
  simp only [h.row, h.nl]
  exact hw
def mFP (μ : Mem) (j k t : Nat) (v : Int32) : Prop := if k < 4 then mPair μ (12 + 4 * j + k) t v ∨ (mPair μ (8 + j) t v ∧ ¬ ∃ v', mPair μ (12 + 4 * j + k) t v') else mPair μ (8 + j) t v
theorem frD.fp {μ μ' : Mem} (h : frD μ μ') (j k : Nat) : mFP μ' j k = mFP μ j k := by
  funext t v
  unfold mFP
  rw [h.pair, h.pair]
theorem kpt_0 (f : PL) (t : Nat) : kpt f 0 t = true := bq_t (fun i q hi => by omega)
theorem kpt_n {f : PL} {t : Nat} : kpt f f.length t = true ↔ ¬ ∃ v, (t, v) ∈ f := by
  unfold kpt
  rw [bq_i]
  constructor
  · rintro h ⟨v, hv⟩
    obtain ⟨i, hi⟩ := List.getElem?_of_mem hv
    exact h i _ ((List.getElem?_eq_some_iff.mp hi).1) hi rfl
  · intro h i q hi hq e
    exact h ⟨q.2, by rw [← e]; exact List.mem_of_getElem? hq⟩
theorem tkf_all {l f : PL} {b : Nat} {p : Nat × Int32} : p ∈ f ++ tkf l (kpt f b) l.length ↔ p ∈ f ∨ (p ∈ l ∧ kpt f b p.1 = true) := by
  rw [List.mem_append, tkf_mem (Nat.le_refl _)]
  constructor
  · rintro (h | ⟨i, -, h2, h3⟩)
    · exact Or.inl h
    · exact Or.inr ⟨List.mem_of_getElem? h2, h3⟩
  · rintro (h | ⟨h2, h3⟩)
    · exact Or.inl h
    · obtain ⟨i, hi⟩ := List.getElem?_of_mem h2
      exact Or.inr ⟨i, (List.getElem?_eq_some_iff.mp hi).1, hi, h3⟩

set_option maxRecDepth 100000 in
set_option maxHeartbeats 4000000 in
/-- X10 force -/
theorem k_X10_force (l : Launch) (G : XG) (hI : XI G) (j k : Nat) (μ : Mem) (hw : mWF μ) (hj : j < mnp μ) (hk7 : k < 7) : XMet l G y_X10_force c_X10_force 3 none 2 [.inr (24, 0), .inl (nI j), .inl (nI k)] μ (fun rr μ' => rr = none ∧ ∃ fl : PL, fIs μ' fl ∧ (∀ t v, (t, v) ∈ fl ↔ mFP μ j k t v) ∧ fl.length ≤ 40 ∧ (∀ q, q ∈ fl → q.1 ≤ 1000) ∧ frF μ μ') := by
  refine xj_met (by decide) hI (Nat.le_of_ble_eq_true rfl) ?_
  intro p e s m args below meth c E hr hlk
  have E : XE G (xA G) RX10 c_X10_force 3 p s m args c := E
  refine xj_loc (L' := [some (.inr (24, 0)), some (.inl (nI j)), some (.inl (nI k))]) rfl ?_
  have hnp := hw.2.2.2.1
  have hc16 := hw.1.2.1.2
  have hq0 := hw.2.2.2.2.2 (5 * j) (by omega)
  rw [rq_own] at hq0
  have hR0 := hq0.1
  have hb0 := hR0.1.2
  have hrest : ∀ (μ1 : Mem) (f1 : PL), frF μ μ1 → fIs μ1 f1 → f1.length ≤ 20 → (∀ q, q ∈ f1 → q.1 ≤ 1000) → (∀ t v (l2 : PL), mClOK μ (8 + j) l2 → (((t, v) ∈ f1 ∨ ((t, v) ∈ l2 ∧ kpt f1 f1.length t = true)) ↔ mFP μ j k t v)) → XJ G (xA G) 3 p l e (xr 2) s m args below meth c 0 0 (MQ below (xQ G (fun rr μ' => rr = none ∧ ∃ fl : PL, fIs μ' fl ∧ (∀ t v, (t, v) ∈ fl ↔ mFP μ j k t v) ∧ fl.length ≤ 40 ∧ (∀ q, q ∈ fl → q.1 ≤ 1000) ∧ frF μ μ')) args s 0 0 (xA G)) 24 [some (.inr (24, 0)), some (.inl (nI j)), some (.inl (nI k))] [] μ1 := by
    intro μ1 f1 hfr1 hf1 hf1l hfy1 hmem
    refine xj_aload_n E d_X10_force_24 rfl ?_
    refine xj_iload_n E d_X10_force_25 rfl ?_
    refine xj_iconst (v := -1) E d_X10_force_26 (by decide) ?_
    refine xj_callS E (k_X10_rowOf l G hI (nI j) (-1) _) cw_X10_129 cs_X10_rowOf rfl rfl ⟨by decide, by decide⟩ (Nat.le_of_ble_eq_true rfl) d_X10_force_27 ⟨Nat.zero_le _, Nat.zero_le _⟩ (fun r27 μ27 ho27 hp27 => ?_)
    obtain ⟨rfl, hm27⟩ := hp27
    refine xj_mem hm27 ?_
    refine xj_st (st' := [.inl (nI (8 + j)), .inr (24, 0)]) (by rw [row_own]; try rfl) ?_
    refine xj_callV E (k_X10_close l G hI (8 + j) (mnt μ) _ (by omega) (by rw [hfr1.l.d.typ]; exact hw.1) (by rw [hfr1.l.d.row]; exact hR0)) cw_X10_140 cv_X10_close (by decide) rfl rfl rfl ⟨by decide, by decide⟩ (Nat.le_of_ble_eq_true rfl) d_X10_force_30 ⟨Nat.zero_le _, Nat.zero_le _⟩ (fun r30 μ30 ho30 hp30 => ?_)
    obtain ⟨rfl, l2, hc2, hok2, hlen2, hfr2⟩ := hp30
    rw [hfr1.l.d.clok] at hok2
    rw [hfr1.l.d.nb, hfr1.l.d.nc] at hlen2
    have hty2 := mOK_lt hw.1 hR0 (fun q hq => (hok2.2 q.1 q.2).mp hq)
    have hf2 : fIs μ30 f1 := hf1.keep (hfr2.2 0 27 (by decide)) (hfr2.1 58 (by decide) (by decide)) (hfr2.1 59 (by decide) (by decide))
    refine xj_aload_n E d_X10_force_33 rfl ?_
    refine xj_aload_n E d_X10_force_34 rfl ?_
    refine xj_geti E fl_X10_144 (by decide) rfl (by decide) rfl d_X10_force_35 ?_
    refine xj_st (st' := [.inl (nI f1.length), .inr (24, 0)]) (by rw [← hf2.1]; try rfl) ?_
    refine xj_callV E (k_X10_takeOver l G hI f1.length l2 f1 _ hc2 hf2 (by omega) hf1l (Nat.le_refl _) hty2 hfy1) cw_X10_147 cv_X10_takeOver (by decide) rfl rfl rfl ⟨by decide, by decide⟩ (Nat.le_of_ble_eq_true rfl) d_X10_force_38 ⟨Nat.zero_le _, Nat.zero_le _⟩ (fun r38 μ38 ho38 hp38 => ?_)
    obtain ⟨rfl, hf3, hfr3⟩ := hp38
    exact xj_vret E hr hlk d_X10_force_41 (⟨rfl, _, hf3, fun t v => (tkf_all.trans (hmem t v l2 hok2)), by rw [List.length_append]; have := tkf_len (l := l2) (keep := kpt f1 f1.length) (n := l2.length); omega, fun q hq => (tkf_all.mp hq).elim (hfy1 q) (fun h => hty2 q h.1), (hfr1.tr hfr2.f).tr (hfr3.up (by decide) (by decide))⟩)
  refine xj_aload_n E d_X10_force_0 rfl ?_
  refine xj_iconst (v := 0) E d_X10_force_1 (by decide) ?_
  refine xj_put E fp_X10_144 (by decide) rfl (by decide) rfl (narrow_i _) d_X10_force_2 ?_
  have fr0 : frF μ (mset μ 24 0 27 0) := frG_o (by decide)
  refine xj_iload_n E d_X10_force_5 rfl ?_
  refine xj_iconst (v := 4) E d_X10_force_6 (by decide) ?_
  refine xj_icmp_ge (tgt := 24) E d_X10_force_7 (by decide) (fun h7 => ?_) (fun h7 => ?_)
  · first
      | (refine hrest _ _ ((fr0.tr hfr1.f).tr (hfr2.up (by decide) (by decide))) hf2 (by have := tkf_len (l := l1) (keep := kpt [] 0) (n := l1.length); simp; omega) (fun q hq => (tkf_all.mp hq).elim (fun h => absurd h List.not_mem_nil) (fun h => hty1 q h.1)) (fun t v l2 hok2 => ?_)
         have h1 : ∀ w, (t, w) ∈ ([] ++ tkf l1 (kpt [] 0) l1.length) ↔ mPair μ (12 + 4 * j + k) t w := fun w => by
           rw [tkf_all]
           constructor
           · rintro (h | h)
             · exact absurd h List.not_mem_nil
             · exact (hok1.2 t w).mp h.1
           · intro h
             exact Or.inr ⟨(hok1.2 t w).mpr h, kpt_0 _ _⟩
         unfold mFP
         rw [if_pos hk4, kpt_n, h1 v, hok2.2 t v]
         simp only [h1])
      | (refine hrest _ [] fr0 (LIs.nil (mset_at _ _ _ _ _)) (Nat.zero_le _) (fun q hq => absurd hq List.not_mem_nil) (fun t v l2 hok2 => ?_)
         have hk4 : ¬ k < 4 := by
           have := ge_nI (a := 4) h7 (by omega) (by omega)
           omega
         unfold mFP
         rw [if_neg hk4, hok2.2 t v, kpt_n]
         simp)
  have hk4 : k < 4 := ng_nI (a := 4) h7 (by omega) (by omega)
  have hq1 := hw.2.2.2.2.2 (5 * j + 1 + k) (by omega)
  rw [rq_m hk4] at hq1
  have hR1 := hq1.1
  have hb1 := hR1.1.2
  refine xj_aload_n E d_X10_force_10 rfl ?_
  refine xj_iload_n E d_X10_force_11 rfl ?_
  refine xj_iload_n E d_X10_force_12 rfl ?_
  refine xj_callS E (k_X10_rowOf l G hI (nI j) (nI k) _) cw_X10_129 cs_X10_rowOf rfl rfl ⟨by decide, by decide⟩ (Nat.le_of_ble_eq_true rfl) d_X10_force_13 ⟨Nat.zero_le _, Nat.zero_le _⟩ (fun r13 μ13 ho13 hp13 => ?_)
  obtain ⟨rfl, hm13⟩ := hp13
  refine xj_mem hm13 ?_
  refine xj_st (st' := [.inl (nI (12 + 4 * j + k)), .inr (24, 0)]) (by rw [row_m (by omega)]; try rfl) ?_
  refine xj_callV E (k_X10_close l G hI (12 + 4 * j + k) (mnt μ) _ (by omega) (by rw [fr0.l.d.typ]; exact hw.1) (by rw [fr0.l.d.row]; exact hR1)) cw_X10_140 cv_X10_close (by decide) rfl rfl rfl ⟨by decide, by decide⟩ (Nat.le_of_ble_eq_true rfl) d_X10_force_16 ⟨Nat.zero_le _, Nat.zero_le _⟩ (fun r16 μ16 ho16 hp16 => ?_)
  obtain ⟨rfl, l1, hc1, hok1, hlen1, hfr1⟩ := hp16
  rw [fr0.l.d.clok] at hok1
  rw [fr0.l.d.nb, fr0.l.d.nc] at hlen1
  have hty1 := mOK_lt hw.1 hR1 (fun q hq => (hok1.2 q.1 q.2).mp hq)
  have hf1 : fIs μ16 [] := LIs.nil ((hfr1.2 0 27 (by decide)).trans (mset_at _ _ _ _ _))
  refine xj_aload_n E d_X10_force_19 rfl ?_
  refine xj_iconst (v := 0) E d_X10_force_20 (by decide) ?_
  refine xj_callV E (k_X10_takeOver l G hI 0 l1 [] _ hc1 hf1 (by omega) (Nat.zero_le _) (Nat.zero_le _) hty1 (fun q hq => absurd hq List.not_mem_nil)) cw_X10_147 cv_X10_takeOver (by decide) rfl rfl rfl ⟨by decide, by decide⟩ (Nat.le_of_ble_eq_true rfl) d_X10_force_21 ⟨Nat.zero_le _, Nat.zero_le _⟩ (fun r21 μ21 ho21 hp21 => ?_)
  obtain ⟨rfl, hf2, hfr2⟩ := hp21
  first
    | (refine hrest _ _ ((fr0.tr hfr1.f).tr (hfr2.up (by decide) (by decide))) hf2 (by have := tkf_len (l := l1) (keep := kpt [] 0) (n := l1.length); simp; omega) (fun q hq => (tkf_all.mp hq).elim (fun h => absurd h List.not_mem_nil) (fun h => hty1 q h.1)) (fun t v l2 hok2 => ?_)
       have h1 : ∀ w, (t, w) ∈ ([] ++ tkf l1 (kpt [] 0) l1.length) ↔ mPair μ (12 + 4 * j + k) t w := fun w => by
         rw [tkf_all]
         constructor
         · rintro (h | h)
           · exact absurd h List.not_mem_nil
           · exact (hok1.2 t w).mp h.1
         · intro h
           exact Or.inr ⟨(hok1.2 t w).mpr h, kpt_0 _ _⟩
       unfold mFP
       rw [if_pos hk4, kpt_n, h1 v, hok2.2 t v]
       simp only [h1])
    | (refine hrest _ [] fr0 (LIs.nil (mset_at _ _ _ _ _)) (Nat.zero_le _) (fun q hq => absurd hq List.not_mem_nil) (fun t v l2 hok2 => ?_)
       have hk4 : ¬ k < 4 := by
         have := ge_nI (a := 4) h7 (by omega) (by omega)
         omega
       unfold mFP
       rw [if_neg hk4, hok2.2 t v, kpt_n]
       simp)

set_option maxRecDepth 100000 in
set_option maxHeartbeats 4000000 in
/-- X10 isBound -/
theorem k_X10_isBound (l : Launch) (G : XG) (hI : XI G) (i nt : Nat) (fl : PL) (μ : Mem) (hi : i < 8) (hT : mTyp μ nt) (hR : mRow μ i nt) (hf : fIs μ fl) (hfl : fl.length ≤ 40) (hfy : ∀ q, q ∈ fl → q.1 ≤ 1000) : XMet l G y_X10_isBound c_X10_isBound 5 (some .boolean) 2 [.inr (24, 0), .inl (nI i)] μ (fun rr μ' => rr = some (.inl (if bq (¬ μ 38 0 i = 0 ∧ 0 < mnb μ i ∧ ∀ t v, mPair μ i t v → (t, v) ∈ fl) = true then 1 else 0)) ∧ frC μ μ') := by
  refine xj_met (by decide) hI (Nat.le_of_ble_eq_true rfl) ?_
  intro p e s m args below meth c E hr hlk
  have E : XE G (xA G) RX10 c_X10_isBound 5 p s m args c := E
  refine xj_loc (L' := [some (.inr (24, 0)), some (.inl (nI i)), none, none, none]) rfl ?_
  have hc16 := hT.2.1.2
  have hb4 := hR.1.2
  have hci : (nI i).toNatClampNeg = i := cl_nI (by omega)
  have lps : ∀ (μ1 : Mem) (l1 : PL), cIs μ1 l1 → l1.length ≤ 20 → (∀ q, q ∈ l1 → q.1 ≤ 1000) → fIs μ1 fl → ∀ (Q : State → Prop), ((∀ q, q ∈ l1 → q ∈ fl) → XJ G (xA G) 5 p l e (xr 2) s m args below meth c 0 0 Q 109 [some (.inr (24, 0)), some (.inl (nI i)), some (.inl (nI l1.length)), none, none] [] μ1) → (∀ L, L.length = 5 → (¬ ∀ q, q ∈ l1 → q ∈ fl) → XJ G (xA G) 5 p l e (xr 2) s m args below meth c 0 0 Q 101 L [] μ1) → XJ G (xA G) 5 p l e (xr 2) s m args below meth c 0 0 Q 27 [some (.inr (24, 0)), some (.inl (nI i)), some (.inl (nI 0)), none, none] [] μ1 := by
    intro μ1 l1 hc hlen hty hf Q hx hno
    have lp2 : ∀ (n k j : Nat) (hk : k < l1.length) (x : Int32), fl.length - j = n → j ≤ fl.length → ((x = 0 ∨ x = 1) ∧ (x = 1 ↔ (∃ a, a < j ∧ fl[a]? = some (l1[k]'hk)))) → (∀ x : Int32, ((x = 0 ∨ x = 1) ∧ (x = 1 ↔ (∃ a, a < fl.length ∧ fl[a]? = some (l1[k]'hk)))) → XJ G (xA G) 5 p l e (xr 2) s m args below meth c 0 0 Q 97 [some (.inr (24, 0)), some (.inl (nI i)), some (.inl (nI k)), some (.inl (x)), none] [] μ1) → XJ G (xA G) 5 p l e (xr 2) s m args below meth c 0 0 Q 40 [some (.inr (24, 0)), some (.inl (nI i)), some (.inl (nI k)), some (.inl (x)), some (.inl (nI j))] [] μ1 := by
      intro n
      induction n using Nat.strongRecOn with
      | _ n ih =>
      intro k j hk x hn hj hinv hy
      have hcj : (nI j).toNatClampNeg = j := cl_nI (by omega)
      have hck : (nI k).toNatClampNeg = k := cl_nI (by omega)
      refine xj_iload E d_X10_isBound_40 rfl ?_
      refine xj_aload_n E d_X10_isBound_42 rfl ?_
      refine xj_geti E fl_X10_144 (by decide) rfl (by decide) rfl d_X10_isBound_43 ?_
      refine xj_icmp_ge (tgt := 97) E d_X10_isBound_46 (by decide) (fun h46 => ?_) (fun h46 => ?_)
      · have hk8 : j = fl.length := by
          have := ge_nI (b := j) (by rw [← hf.1]; exact h46) (by omega) (by omega)
          omega
        subst hk8
        refine xj_forget 4 ?_
        exact hy x hinv
      have hlt : j < fl.length := ng_nI (b := j) (by rw [← hf.1]; exact h46) (by omega) (by omega)
      have hfat : fl[j]? = some fl[j] := List.getElem?_eq_getElem hlt
      have hfm := hf.2 j _ hfat
      have hlm := hc.2 k _ (List.getElem?_eq_getElem hk)
      have t1 := hfy _ (List.getElem_mem hlt)
      have t2 := hty _ (List.getElem_mem hk)
      refine xj_iload_n E d_X10_isBound_49 rfl ?_
      refine xj_if_ne (tgt := 85) E d_X10_isBound_50 (by decide) (fun h50 => ?_) (fun h50 => ?_)
      · refine xj_iconst (v := 1) E d_X10_isBound_85 (by decide) ?_
        refine xj_goto (tgt := 90) E d_X10_isBound_86 (by decide) ?_
        refine xj_istore_n E d_X10_isBound_90 (by decide) rfl ?_
        refine xj_iinc (v := nI (j + 1)) E d_X10_isBound_91 rfl (nI_inc j) rfl ?_
        refine xj_goto (tgt := 40) E d_X10_isBound_94 (by decide) ?_
        first
          | exact ih (fl.length - (j + 1)) (by omega) k (j + 1) hk 1 rfl (by omega) ⟨Or.inr rfl, ⟨fun _ => ⟨j, by omega, by
              rw [hcj, hck, hfm.1, hlm.1] at h66
              rw [hcj, hck, hfm.2, hlm.2] at h82
              rw [hfat]
              exact congrArg some (Prod.ext ((nI_eq (by omega) (by omega)).mp h66) h82)⟩, fun _ => rfl⟩⟩ hy
          | exact ih (fl.length - (j + 1)) (by omega) k (j + 1) hk 0 rfl (by omega) ⟨Or.inl rfl, ⟨fun q => absurd q i0_1, fun ⟨a, h1, h2⟩ => by
              exfalso
              by_cases z : a = j
              · subst z
                rw [hfat] at h2
                have h3 := Option.some.inj h2
                first
                  | (apply h82; rw [hcj, hck, hfm.2, hlm.2, h3])
                  | (apply h66; rw [hcj, hck, hfm.1, hlm.1, h3])
              · exact i0_1 (h50.symm.trans (hinv.2.mpr ⟨a, by omega, h2⟩))⟩⟩ hy
          | exact ih (fl.length - (j + 1)) (by omega) k (j + 1) hk 1 rfl (by omega) ⟨Or.inr rfl, ⟨fun _ => by
              obtain ⟨a, h1, h2⟩ := hinv.2.mp (hinv.1.resolve_left h50)
              exact ⟨a, by omega, h2⟩, fun _ => rfl⟩⟩ hy
      refine xj_aload_n E d_X10_isBound_53 rfl ?_
      refine xj_geta E fl_X10_71 (by decide) rfl (by decide) rfl d_X10_isBound_54 ?_
      refine xj_iload E d_X10_isBound_57 rfl ?_
      refine xj_iald E (by decide) (show vp_in (nI j) 48 from in_nI (by omega) (by omega)) d_X10_isBound_59 ?_
      refine xj_aload_n E d_X10_isBound_60 rfl ?_
      refine xj_geta E fl_X10_65 (by decide) rfl (by decide) rfl d_X10_isBound_61 ?_
      refine xj_iload_n E d_X10_isBound_64 rfl ?_
      refine xj_iald E (by decide) (show vp_in (nI k) 24 from in_nI (by omega) (by omega)) d_X10_isBound_65 ?_
      refine xj_icmp_ne (tgt := 89) E d_X10_isBound_66 (by decide) (fun h66 => ?_) (fun h66 => ?_)
      · refine xj_iconst (v := 0) E d_X10_isBound_89 (by decide) ?_
        refine xj_istore_n E d_X10_isBound_90 (by decide) rfl ?_
        refine xj_iinc (v := nI (j + 1)) E d_X10_isBound_91 rfl (nI_inc j) rfl ?_
        refine xj_goto (tgt := 40) E d_X10_isBound_94 (by decide) ?_
        first
          | exact ih (fl.length - (j + 1)) (by omega) k (j + 1) hk 1 rfl (by omega) ⟨Or.inr rfl, ⟨fun _ => ⟨j, by omega, by
              rw [hcj, hck, hfm.1, hlm.1] at h66
              rw [hcj, hck, hfm.2, hlm.2] at h82
              rw [hfat]
              exact congrArg some (Prod.ext ((nI_eq (by omega) (by omega)).mp h66) h82)⟩, fun _ => rfl⟩⟩ hy
          | exact ih (fl.length - (j + 1)) (by omega) k (j + 1) hk 0 rfl (by omega) ⟨Or.inl rfl, ⟨fun q => absurd q i0_1, fun ⟨a, h1, h2⟩ => by
              exfalso
              by_cases z : a = j
              · subst z
                rw [hfat] at h2
                have h3 := Option.some.inj h2
                first
                  | (apply h82; rw [hcj, hck, hfm.2, hlm.2, h3])
                  | (apply h66; rw [hcj, hck, hfm.1, hlm.1, h3])
              · exact i0_1 (h50.symm.trans (hinv.2.mpr ⟨a, by omega, h2⟩))⟩⟩ hy
          | exact ih (fl.length - (j + 1)) (by omega) k (j + 1) hk 1 rfl (by omega) ⟨Or.inr rfl, ⟨fun _ => by
              obtain ⟨a, h1, h2⟩ := hinv.2.mp (hinv.1.resolve_left h50)
              exact ⟨a, by omega, h2⟩, fun _ => rfl⟩⟩ hy
      refine xj_aload_n E d_X10_isBound_69 rfl ?_
      refine xj_geta E fl_X10_74 (by decide) rfl (by decide) rfl d_X10_isBound_70 ?_
      refine xj_iload E d_X10_isBound_73 rfl ?_
      refine xj_iald E (by decide) (show vp_in (nI j) 48 from in_nI (by omega) (by omega)) d_X10_isBound_75 ?_
      refine xj_aload_n E d_X10_isBound_76 rfl ?_
      refine xj_geta E fl_X10_68 (by decide) rfl (by decide) rfl d_X10_isBound_77 ?_
      refine xj_iload_n E d_X10_isBound_80 rfl ?_
      refine xj_iald E (by decide) (show vp_in (nI k) 24 from in_nI (by omega) (by omega)) d_X10_isBound_81 ?_
      refine xj_icmp_ne (tgt := 89) E d_X10_isBound_82 (by decide) (fun h82 => ?_) (fun h82 => ?_)
      · refine xj_iconst (v := 0) E d_X10_isBound_89 (by decide) ?_
        refine xj_istore_n E d_X10_isBound_90 (by decide) rfl ?_
        refine xj_iinc (v := nI (j + 1)) E d_X10_isBound_91 rfl (nI_inc j) rfl ?_
        refine xj_goto (tgt := 40) E d_X10_isBound_94 (by decide) ?_
        first
          | exact ih (fl.length - (j + 1)) (by omega) k (j + 1) hk 1 rfl (by omega) ⟨Or.inr rfl, ⟨fun _ => ⟨j, by omega, by
              rw [hcj, hck, hfm.1, hlm.1] at h66
              rw [hcj, hck, hfm.2, hlm.2] at h82
              rw [hfat]
              exact congrArg some (Prod.ext ((nI_eq (by omega) (by omega)).mp h66) h82)⟩, fun _ => rfl⟩⟩ hy
          | exact ih (fl.length - (j + 1)) (by omega) k (j + 1) hk 0 rfl (by omega) ⟨Or.inl rfl, ⟨fun q => absurd q i0_1, fun ⟨a, h1, h2⟩ => by
              exfalso
              by_cases z : a = j
              · subst z
                rw [hfat] at h2
                have h3 := Option.some.inj h2
                first
                  | (apply h82; rw [hcj, hck, hfm.2, hlm.2, h3])
                  | (apply h66; rw [hcj, hck, hfm.1, hlm.1, h3])
              · exact i0_1 (h50.symm.trans (hinv.2.mpr ⟨a, by omega, h2⟩))⟩⟩ hy
          | exact ih (fl.length - (j + 1)) (by omega) k (j + 1) hk 1 rfl (by omega) ⟨Or.inr rfl, ⟨fun _ => by
              obtain ⟨a, h1, h2⟩ := hinv.2.mp (hinv.1.resolve_left h50)
              exact ⟨a, by omega, h2⟩, fun _ => rfl⟩⟩ hy
      refine xj_iconst (v := 1) E d_X10_isBound_85 (by decide) ?_
      refine xj_goto (tgt := 90) E d_X10_isBound_86 (by decide) ?_
      refine xj_istore_n E d_X10_isBound_90 (by decide) rfl ?_
      refine xj_iinc (v := nI (j + 1)) E d_X10_isBound_91 rfl (nI_inc j) rfl ?_
      refine xj_goto (tgt := 40) E d_X10_isBound_94 (by decide) ?_
      first
        | exact ih (fl.length - (j + 1)) (by omega) k (j + 1) hk 1 rfl (by omega) ⟨Or.inr rfl, ⟨fun _ => ⟨j, by omega, by
            rw [hcj, hck, hfm.1, hlm.1] at h66
            rw [hcj, hck, hfm.2, hlm.2] at h82
            rw [hfat]
            exact congrArg some (Prod.ext ((nI_eq (by omega) (by omega)).mp h66) h82)⟩, fun _ => rfl⟩⟩ hy
        | exact ih (fl.length - (j + 1)) (by omega) k (j + 1) hk 0 rfl (by omega) ⟨Or.inl rfl, ⟨fun q => absurd q i0_1, fun ⟨a, h1, h2⟩ => by
            exfalso
            by_cases z : a = j
            · subst z
              rw [hfat] at h2
              have h3 := Option.some.inj h2
              first
                | (apply h82; rw [hcj, hck, hfm.2, hlm.2, h3])
                | (apply h66; rw [hcj, hck, hfm.1, hlm.1, h3])
            · exact i0_1 (h50.symm.trans (hinv.2.mpr ⟨a, by omega, h2⟩))⟩⟩ hy
        | exact ih (fl.length - (j + 1)) (by omega) k (j + 1) hk 1 rfl (by omega) ⟨Or.inr rfl, ⟨fun _ => by
            obtain ⟨a, h1, h2⟩ := hinv.2.mp (hinv.1.resolve_left h50)
            exact ⟨a, by omega, h2⟩, fun _ => rfl⟩⟩ hy
    have lp1 : ∀ (n k : Nat), l1.length - k = n → k ≤ l1.length → (∀ (a : Nat) (q : Nat × Int32), a < k → l1[a]? = some q → q ∈ fl) → XJ G (xA G) 5 p l e (xr 2) s m args below meth c 0 0 Q 27 [some (.inr (24, 0)), some (.inl (nI i)), some (.inl (nI k)), none, none] [] μ1 := by
      intro n
      induction n using Nat.strongRecOn with
      | _ n ih =>
      intro k hn hk hinv
      refine xj_iload_n E d_X10_isBound_27 rfl ?_
      refine xj_aload_n E d_X10_isBound_28 rfl ?_
      refine xj_geti E fl_X10_133 (by decide) rfl (by decide) rfl d_X10_isBound_29 ?_
      refine xj_icmp_ge (tgt := 109) E d_X10_isBound_32 (by decide) (fun h32 => ?_) (fun h32 => ?_)
      · have hk8 : k = l1.length := by
          have := ge_nI (b := k) (by rw [← hc.1]; exact h32) (by omega) (by omega)
          omega
        subst hk8
        refine hx (fun q hq => ?_)
        obtain ⟨a, ha⟩ := List.getElem?_of_mem hq
        exact hinv a q ((List.getElem?_eq_some_iff.mp ha).1) ha
      have hlt : k < l1.length := ng_nI (b := k) (by rw [← hc.1]; exact h32) (by omega) (by omega)
      refine xj_iconst (v := 0) E d_X10_isBound_35 (by decide) ?_
      refine xj_istore_n E d_X10_isBound_36 (by decide) rfl ?_
      refine xj_iconst (v := 0) E d_X10_isBound_37 (by decide) ?_
      refine xj_istore E d_X10_isBound_38 (by decide) rfl ?_
      refine lp2 fl.length k 0 hlt 0 (by omega) (by omega) ⟨Or.inl rfl, ⟨fun q => absurd q i0_1, fun ⟨a, h1, _⟩ => by omega⟩⟩ (fun x hinv2 => ?_)
      refine xj_iload_n E d_X10_isBound_97 rfl ?_
      refine xj_if_ne (tgt := 103) E d_X10_isBound_98 (by decide) (fun h98 => ?_) (fun h98 => ?_)
      · refine xj_iinc (v := nI (k + 1)) E d_X10_isBound_103 rfl (nI_inc k) rfl ?_
        refine xj_goto (tgt := 27) E d_X10_isBound_106 (by decide) ?_
        refine xj_forget 3 ?_
        refine xj_forget 4 ?_
        refine ih (l1.length - (k + 1)) (by omega) (k + 1) rfl (by omega) (fun a q ha hq => ?_)
        by_cases z : a = k
        · subst z
          rw [List.getElem?_eq_getElem hlt] at hq
          cases hq
          obtain ⟨b, -, hb⟩ := hinv2.2.mp (hinv2.1.resolve_left h98)
          exact List.mem_of_getElem? hb
        · exact hinv a q (by omega) hq
      refine hno _ rfl (fun q => ?_)
      obtain ⟨a, ha⟩ := List.getElem?_of_mem (q _ (List.getElem_mem hlt))
      exact i0_1 (h98.symm.trans (hinv2.2.mpr ⟨a, (List.getElem?_eq_some_iff.mp ha).1, ha⟩))
    exact lp1 l1.length 0 (by omega) (by omega) (fun a q ha => by omega)
  refine xj_aload_n E d_X10_isBound_0 rfl ?_
  refine xj_geta E fl_X10_23 (by decide) rfl (by decide) rfl d_X10_isBound_1 ?_
  refine xj_iload_n E d_X10_isBound_4 rfl ?_
  refine xj_iald E (by decide) (show vp_in (nI i) 8 from in_nI hi (by omega)) d_X10_isBound_5 ?_
  refine xj_if_eq (tgt := 18) E d_X10_isBound_6 (by decide) (fun h6 => ?_) (fun h6 => ?_)
  · refine xj_iconst (v := 0) E d_X10_isBound_18 (by decide) ?_
    exact xj_zret E hr hlk (Or.inl rfl) d_X10_isBound_19 (by first | (rw [bq_f (show ¬ (¬ μ 38 0 i = 0 ∧ 0 < mnb μ i ∧ ∀ t v, mPair μ i t v → (t, v) ∈ fl) from fun q => by rw [hci, hR.1.1] at h15; exact nI_ne0 q.2.1 (by omega) h15)]; exact ⟨rfl, frG.rf _ _ _⟩) | (rw [bq_f (show ¬ (¬ μ 38 0 i = 0 ∧ 0 < mnb μ i ∧ ∀ t v, mPair μ i t v → (t, v) ∈ fl) from fun q => q.1 (by rw [hci] at h6; exact h6))]; exact ⟨rfl, frG.rf _ _ _⟩))
  refine xj_aload_n E d_X10_isBound_9 rfl ?_
  refine xj_geta E fl_X10_50 (by decide) rfl (by decide) rfl d_X10_isBound_10 ?_
  refine xj_iload_n E d_X10_isBound_13 rfl ?_
  refine xj_iald E (by decide) (show vp_in (nI i) 28 from in_nI (by omega) (by omega)) d_X10_isBound_14 ?_
  refine xj_if_ne (tgt := 20) E d_X10_isBound_15 (by decide) (fun h15 => ?_) (fun h15 => ?_)
  · refine xj_aload_n E d_X10_isBound_20 rfl ?_
    refine xj_iload_n E d_X10_isBound_21 rfl ?_
    refine xj_callV E (k_X10_close l G hI i nt _ (by omega) hT hR) cw_X10_140 cv_X10_close (by decide) rfl rfl rfl ⟨by decide, by decide⟩ (Nat.le_of_ble_eq_true rfl) d_X10_isBound_22 ⟨Nat.zero_le _, Nat.zero_le _⟩ (fun r22 μ22 ho22 hp22 => ?_)
    obtain ⟨rfl, l1, hc, hok, hlen, hfr⟩ := hp22
    have hty := mOK_lt hT hR (fun q hq => (hok.2 q.1 q.2).mp hq)
    have hf1 : fIs μ22 fl := hf.keep (hfr.2 0 27 (by decide)) (hfr.1 58 (by decide) (by decide)) (hfr.1 59 (by decide) (by decide))
    have hnb : 0 < mnb μ i := by
      apply Classical.byContradiction
      intro q
      apply h15
      rw [hci, hR.1.1, show mnb μ i = 0 by omega]
      rfl
    refine xj_iconst (v := 0) E d_X10_isBound_25 (by decide) ?_
    refine xj_istore_n E d_X10_isBound_26 (by decide) rfl ?_
    refine lps _ l1 hc (by omega) hty hf1 _ (fun hall => ?_) (fun L0 hL0 hno => ?_)
    · refine xj_iconst (v := 1) E d_X10_isBound_109 (by decide) ?_
      exact xj_zret E hr hlk (Or.inr rfl) d_X10_isBound_110 (by rw [bq_t (show (¬ μ 38 0 i = 0 ∧ 0 < mnb μ i ∧ ∀ t v, mPair μ i t v → (t, v) ∈ fl) from ⟨fun q => h6 (by rw [hci]; exact q), hnb, fun t v hp => hall _ ((hok.2 t v).mpr hp)⟩)]; exact ⟨rfl, hfr⟩)
    · refine xj_iconst (v := 0) E d_X10_isBound_101 (by decide) ?_
      exact xj_zret E hr hlk (Or.inl rfl) d_X10_isBound_102 (by rw [bq_f (show ¬ (¬ μ 38 0 i = 0 ∧ 0 < mnb μ i ∧ ∀ t v, mPair μ i t v → (t, v) ∈ fl) from fun q => hno (fun p hp => q.2.2 p.1 p.2 ((hok.2 p.1 p.2).mp hp)))]; exact ⟨rfl, hfr⟩)
  refine xj_iconst (v := 0) E d_X10_isBound_18 (by decide) ?_
  exact xj_zret E hr hlk (Or.inl rfl) d_X10_isBound_19 (by first | (rw [bq_f (show ¬ (¬ μ 38 0 i = 0 ∧ 0 < mnb μ i ∧ ∀ t v, mPair μ i t v → (t, v) ∈ fl) from fun q => by rw [hci, hR.1.1] at h15; exact nI_ne0 q.2.1 (by omega) h15)]; exact ⟨rfl, frG.rf _ _ _⟩) | (rw [bq_f (show ¬ (¬ μ 38 0 i = 0 ∧ 0 < mnb μ i ∧ ∀ t v, mPair μ i t v → (t, v) ∈ fl) from fun q => q.1 (by rw [hci] at h6; exact h6))]; exact ⟨rfl, frG.rf _ _ _⟩))

/-- the reference's chain in memory -/
def nIs (μ : Mem) (cl : List Int32) : Prop := μ 24 0 30 = nI cl.length ∧ ∀ (k : Nat) (x : Int32), cl[k]? = some x → μ 61 0 k = x
theorem nIs.keep {μ μ' : Mem} {cl : List Int32} (h : nIs μ cl) (h1 : μ' 24 0 30 = μ 24 0 30) (h2 : μ' 61 = μ 61) : nIs μ' cl := by
  unfold nIs
  rw [h1, h2]
  exact h
theorem nIs.app {μ : Mem} {cl : List Int32} {x : Int32} (h : nIs μ cl) : nIs (mset (mset μ 61 0 cl.length x) 24 0 30 (nI (cl.length + 1))) (cl ++ [x]) := by
  refine ⟨by rw [mset_at]; simp, fun k y hk => ?_⟩
  rw [mset_f (by decide), mset_same]
  by_cases e : k < cl.length
  · rw [List.getElem?_append_left e] at hk
    rw [upd_ne (by omega)]
    exact h.2 k y hk
  · rw [List.getElem?_append_right (by omega)] at hk
    have hz : k - cl.length < 1 := (List.getElem?_eq_some_iff.mp hk).1
    have e2 : k = cl.length := by omega
    subst e2
    simp at hk
    subst hk
    rw [upd_at]
abbrev frN : Mem → Mem → Prop := frG [61] [30]
theorem frN_app {μ : Mem} {a b x : Nat} {y z : Int32} : frN μ (mset (mset μ 61 a b y) 24 0 30 z) := (frG_f (by decide) (by decide)).tr (frG_o (by decide))
def mLs (μ : Mem) (r : Nat) (kind : Int32) : Nat → List Nat
  | 0 => []
  | n + 1 => if μ 39 0 (μ 53 0 (4 * r + n)).toNatClampNeg &&& kind = 0 then mLs μ r kind n else mLs μ r kind n ++ [(μ 53 0 (4 * r + n)).toNatClampNeg]
theorem mLs_len (μ : Mem) (r : Nat) (kind : Int32) : ∀ n, (mLs μ r kind n).length ≤ n
  | 0 => Nat.le_refl _
  | n + 1 => by
    have := mLs_len μ r kind n
    unfold mLs
    split
    · omega
    · simp; exact this

set_option maxRecDepth 100000 in
set_option maxHeartbeats 4000000 in
/-- X10 link -/
theorem k_X10_link (l : Launch) (G : XG) (hI : XI G) (i : Nat) (kind : Int32) (cl : List Int32) (μ : Mem) (hi : i < 8) (hc : nIs μ cl) (hl : cl.length < 24) : XMet l G y_X10_link c_X10_link 3 none 0 [.inr (24, 0), .inl (nI i), .inl kind] μ (fun rr μ' => rr = none ∧ nIs μ' (if μ 39 0 i &&& kind = 0 then cl else cl ++ [nI i]) ∧ frN μ μ') := by
  refine xj_met (by decide) hI (Nat.le_of_ble_eq_true rfl) ?_
  intro p e s m args below meth c E hr hlk
  have E : XE G (xA G) RX10 c_X10_link 3 p s m args c := E
  refine xj_loc (L' := [some (.inr (24, 0)), some (.inl (nI i)), some (.inl kind)]) rfl ?_
  have hci : (nI i).toNatClampNeg = i := cl_nI (by omega)
  have hin : vp_in (μ 24 0 30) 24 := by rw [hc.1]; exact in_nI hl (by omega)
  have hcl : (μ 24 0 30).toNatClampNeg = cl.length := by rw [hc.1]; exact cl_nI (by omega)
  refine xj_aload_n E d_X10_link_0 rfl ?_
  refine xj_geta E fl_X10_26 (by decide) rfl (by decide) rfl d_X10_link_1 ?_
  refine xj_iload_n E d_X10_link_4 rfl ?_
  refine xj_iald E (by decide) (show vp_in (nI i) 8 from in_nI hi (by omega)) d_X10_link_5 ?_
  refine xj_iload_n E d_X10_link_6 rfl ?_
  refine xj_iand E d_X10_link_7 ?_
  refine xj_if_eq (tgt := 31) E d_X10_link_8 (by decide) (fun h8 => ?_) (fun h8 => ?_)
  · exact xj_vret E hr hlk d_X10_link_31 (by first | (refine ⟨rfl, ?_, frN_app (x := 0)⟩; rw [hci] at h8; rw [if_neg h8]; show nIs (mset (mset μ 61 0 (μ 24 0 30).toNatClampNeg (nI i)) 24 0 30 (μ 24 0 30 + 1)) _; rw [hcl, hc.1, nI_1]; exact hc.app) | (refine ⟨rfl, ?_, frG.rf _ _ _⟩; rw [hci] at h8; rw [if_pos h8]; exact hc))
  refine xj_aload_n E d_X10_link_11 rfl ?_
  refine xj_geta E fl_X10_77 (by decide) rfl (by decide) rfl d_X10_link_12 ?_
  refine xj_aload_n E d_X10_link_15 rfl ?_
  refine xj_geti E fl_X10_150 (by decide) rfl (by decide) rfl d_X10_link_16 ?_
  refine xj_iload_n E d_X10_link_19 rfl ?_
  refine xj_iast E (by decide) hin d_X10_link_20 ?_
  refine xj_aload_n E d_X10_link_21 rfl ?_
  refine xj_dup E d_X10_link_22 ?_
  refine xj_geti E fl_X10_150 (by decide) rfl (by decide) rfl d_X10_link_23 ?_
  refine xj_iconst (v := 1) E d_X10_link_26 (by decide) ?_
  refine xj_iadd E d_X10_link_27 ?_
  refine xj_put E fp_X10_150 (by decide) rfl (by decide) rfl (narrow_i _) d_X10_link_28 ?_
  exact xj_vret E hr hlk d_X10_link_31 (by first | (refine ⟨rfl, ?_, frN_app (x := 0)⟩; rw [hci] at h8; rw [if_neg h8]; show nIs (mset (mset μ 61 0 (μ 24 0 30).toNatClampNeg (nI i)) 24 0 30 (μ 24 0 30 + 1)) _; rw [hcl, hc.1, nI_1]; exact hc.app) | (refine ⟨rfl, ?_, frG.rf _ _ _⟩; rw [hci] at h8; rw [if_pos h8]; exact hc))

set_option maxRecDepth 100000 in
set_option maxHeartbeats 4000000 in
/-- X10 linkList -/
theorem k_X10_linkList (l : Launch) (G : XG) (hI : XI G) (r ni : Nat) (kind : Int32) (cl : List Int32) (μ : Mem) (hr28 : r < 28) (hni : ni ≤ 8) (hq : (μ 52 0 r = nI (mnl μ r) ∧ mnl μ r ≤ 4) ∧ ∀ k, k < mnl μ r → ∃ i, i < ni ∧ μ 53 0 (4 * r + k) = nI i) (hc : nIs μ cl) (hl : cl.length ≤ 4) : XMet l G y_X10_linkList c_X10_linkList 4 none 1 [.inr (24, 0), .inl (nI r), .inl kind] μ (fun rr μ' => rr = none ∧ nIs μ' (cl ++ (mLs μ r kind (mnl μ r)).map nI) ∧ frN μ μ') := by
  refine xj_met (by decide) hI (Nat.le_of_ble_eq_true rfl) ?_
  intro p e s m args below meth c E hr hlk
  have E : XE G (xA G) RX10 c_X10_linkList 4 p s m args c := E
  refine xj_loc (L' := [some (.inr (24, 0)), some (.inl (nI r)), some (.inl kind), none]) rfl ?_
  have hcr : (nI r).toNatClampNeg = r := cl_nI (by omega)
  have lp : ∀ (Q : State → Prop) (n k : Nat) (μ1 : Mem), mnl μ r - k = n → k ≤ mnl μ r → frN μ μ1 → nIs μ1 (cl ++ (mLs μ r kind k).map nI) → (∀ μ2, frN μ μ2 → nIs μ2 (cl ++ (mLs μ r kind (mnl μ r)).map nI) → XJ G (xA G) 4 p l e (xr 1) s m args below meth c 0 0 Q 33 [some (.inr (24, 0)), some (.inl (nI r)), some (.inl kind), some (.inl (nI (mnl μ r)))] [] μ2) → XJ G (xA G) 4 p l e (xr 1) s m args below meth c 0 0 Q 2 [some (.inr (24, 0)), some (.inl (nI r)), some (.inl kind), some (.inl (nI k))] [] μ1 := by
    intro Q n
    induction n using Nat.strongRecOn with
    | _ n ih =>
    intro k μ1 hn hk hfr hc1 hx
    have e52 := hfr.1 52 (by decide) (by decide)
    have e53 := hfr.1 53 (by decide) (by decide)
    have e39 := hfr.1 39 (by decide) (by decide)
    have hln := mLs_len μ r kind k
    refine xj_iload_n E d_X10_linkList_2 rfl ?_
    refine xj_aload_n E d_X10_linkList_3 rfl ?_
    refine xj_geta E fl_X10_59 (by decide) rfl (by decide) rfl d_X10_linkList_4 ?_
    refine xj_iload_n E d_X10_linkList_7 rfl ?_
    refine xj_iald E (by decide) (show vp_in (nI r) 28 from in_nI hr28 (by omega)) d_X10_linkList_8 ?_
    refine xj_st (st' := [.inl (nI (mnl μ r)), .inl (nI k)]) (by rw [hcr, e52, hq.1.1]) ?_
    refine xj_icmp_ge (tgt := 33) E d_X10_linkList_9 (by decide) (fun h9 => ?_) (fun h9 => ?_)
    · have hk8 : k = mnl μ r := by
        have := ge_nI h9 (by omega) (by omega)
        omega
      subst hk8
      exact hx _ hfr hc1
    have hlt : k < mnl μ r := ng_nI h9 (by omega) (by omega)
    obtain ⟨i, hi, hli⟩ := hq.2 k hlt
    refine xj_aload_n E d_X10_linkList_12 rfl ?_
    refine xj_aload_n E d_X10_linkList_13 rfl ?_
    refine xj_geta E fl_X10_62 (by decide) rfl (by decide) rfl d_X10_linkList_14 ?_
    refine xj_iconst (v := 4) E d_X10_linkList_17 (by decide) ?_
    refine xj_iload_n E d_X10_linkList_18 rfl ?_
    refine xj_imul E d_X10_linkList_19 ?_
    refine xj_iload_n E d_X10_linkList_20 rfl ?_
    refine xj_iadd E d_X10_linkList_21 ?_
    refine xj_st (st' := [.inl (nI (4 * r + k)), .inr (53, 0), .inr (24, 0)]) (by rw [← ix4]) ?_
    refine xj_iald E (by decide) (show vp_in (nI (4 * r + k)) 112 from in_nI (by omega) (by omega)) d_X10_linkList_22 ?_
    refine xj_st (st' := [.inl (nI i), .inr (24, 0)]) (by rw [cl_nI (by omega), e53, hli]) ?_
    refine xj_iload_n E d_X10_linkList_23 rfl ?_
    refine xj_callV E (k_X10_link l G hI i kind (cl ++ (mLs μ r kind k).map nI) _ (by omega) hc1 (by simp; omega)) cw_X10_153 cv_X10_link (by decide) rfl rfl rfl ⟨by decide, by decide⟩ (Nat.le_of_ble_eq_true rfl) d_X10_linkList_24 ⟨Nat.zero_le _, Nat.zero_le _⟩ (fun r24 μ24 ho24 hp24 => ?_)
    obtain ⟨rfl, hc2, hfr2⟩ := hp24
    rw [e39] at hc2
    refine xj_iinc (v := nI (k + 1)) E d_X10_linkList_27 rfl (nI_inc k) rfl ?_
    refine xj_goto (tgt := 2) E d_X10_linkList_30 (by decide) ?_
    refine ih (mnl μ r - (k + 1)) (by omega) (k + 1) _ rfl (by omega) (hfr.tr hfr2) ?_ hx
    have hg : (μ 53 0 (4 * r + k)).toNatClampNeg = i := by rw [hli]; exact cl_nI (by omega)
    unfold mLs
    rw [hg]
    by_cases z : μ 39 0 i &&& kind = 0
    · rw [if_pos z] at hc2 ⊢
      exact hc2
    · rw [if_neg z] at hc2 ⊢
      rw [List.map_append, ← List.append_assoc]
      exact hc2
  refine xj_iconst (v := 0) E d_X10_linkList_0 (by decide) ?_
  refine xj_istore_n E d_X10_linkList_1 (by decide) rfl ?_
  refine lp _ (mnl μ r) 0 μ (by omega) (by omega) (frG.rf _ _ _) (by simpa [mLs] using hc) (fun μ2 hfr2 hc2 => ?_)
  exact xj_vret E hr hlk d_X10_linkList_33 (⟨rfl, hc2, hfr2⟩)
