theorem inR.mono {x : Int32} {n n' : Nat} (h : inR x n) (hn : n ≤ n') : inR x n' := by
  obtain ⟨t, ht, rfl⟩ := h
  exact ⟨t, by omega, rfl⟩
theorem rowOK.mono {μ : Mem} {nt nt' r b : Nat} (h : rowOK μ nt r b) (hn : nt ≤ nt') : rowOK μ nt' r b := by
  obtain ⟨n, h0, h1, h2, h3⟩ := h
  exact ⟨n, h0, h1, h2, fun k hk => ⟨(h3 k hk).1.mono hn, (h3 k hk).2⟩⟩
theorem lstOK.mono {μ : Mem} {nt nt' r b : Nat} (h : lstOK μ nt r b) (hn : nt ≤ nt') : lstOK μ nt' r b := by
  obtain ⟨n, h0, h1, h2, h3⟩ := h
  exact ⟨n, h0, h1, h2, fun k hk => ⟨(h3 k hk).1.mono hn, (h3 k hk).2⟩⟩
theorem relC.mono {μ : Mem} {nt nt' nc : Nat} (h : relC μ nt nc) (hn : nt ≤ nt') : relC μ nt' nc := ⟨h.1, h.2.1, h.2.2.1, fun k hk => ⟨(h.2.2.2 k hk).1.mono hn, (h.2.2.2 k hk).2.1.mono hn, (h.2.2.2 k hk).2.2⟩⟩
theorem relR.mono {μ : Mem} {nt nt' ni np : Nat} (h : relR μ nt ni np) (hn : nt ≤ nt') : relR μ nt' ni np := ⟨fun i hi => (h.1 i hi).mono hn, fun q hq => ⟨(h.2 q hq).1.mono hn, (h.2 q hq).2⟩⟩
theorem rowOK.cg {μ μ' : Mem} {nt r b : Nat} (h : rowOK μ nt r b) (h4 : μ' 4 b = μ 4 b) (h5 : μ' 5 b = μ 5 b) (h6 : μ' 6 b = μ 6 b) (h49 : μ' 49 0 r = μ 49 0 r) (h50 : ∀ k, k < 4 → μ' 50 0 (4 * r + k) = μ 50 0 (4 * r + k)) (h51 : ∀ k, k < 4 → μ' 51 0 (4 * r + k) = μ 51 0 (4 * r + k)) : rowOK μ' nt r b := by
  obtain ⟨n, h0, h1, h2, h3⟩ := h
  refine ⟨n, h0, by rw [h4]; exact h1, by rw [h49]; exact h2, fun k hk => ?_⟩
  rw [h5, h6, h50 k (by omega), h51 k (by omega)]
  exact h3 k hk
theorem lstOK.cg {μ μ' : Mem} {ni r q : Nat} (h : lstOK μ ni r q) (h13 : μ' 13 q 2 = μ 13 q 2) (h14 : μ' 14 q = μ 14 q) (h52 : μ' 52 0 r = μ 52 0 r) (h53 : ∀ k, k < 4 → μ' 53 0 (4 * r + k) = μ 53 0 (4 * r + k)) : lstOK μ' ni r q := by
  obtain ⟨n, h0, h1, h2, h3⟩ := h
  refine ⟨n, h0, by rw [h13]; exact h1, by rw [h52]; exact h2, fun k hk => ?_⟩
  rw [h14, h53 k (by omega)]
  exact h3 k hk
theorem rq_inj {q q' : Nat} (h : q < 20) (h' : q' < 20) (e : rq q = rq q') : q = q' := by
  unfold rq at e
  split at e <;> split at e <;> omega
theorem rq_ge (q : Nat) : 8 ≤ rq q := by unfold rq; split <;> omega
def fX (μ μ1 : Mem) : Prop := ∀ f, 24 ≤ f → μ1 f = μ f
theorem fX.d {μ μ1 : Mem} (h : fX μ μ1) : frD μ μ1 := ⟨fun f hf => h f (by simp at hf; omega), fun j hj => by rw [h 24 (by omega)]⟩
/-- a row takes a binding -/
theorem row_add {μ : Mem} {nt r b n : Nat} {t v w : Int32} (h : rowOK μ nt r b) (hn : xnb μ b = n) (h4 : n < 4) (ht : inR t nt) {μ' : Mem} (e4 : μ' 4 b 0 = nI (n + 1)) (e5 : μ' 5 b = upd (μ 5 b) n t) (e6 : μ' 6 b = upd (μ 6 b) n w) (e49 : μ' 49 0 r = nI (n + 1)) (e50 : μ' 50 0 = upd (μ 50 0) (4 * r + n) t) (e51 : μ' 51 0 = upd (μ 51 0) (4 * r + n) w) : rowOK μ' nt r b := by
  obtain ⟨N, h0, h1, h2, h3⟩ := h
  have : N = n := by rw [← hn]; unfold xnb; rw [h1]; exact (cl_nI (by omega)).symm
  subst this
  refine ⟨N + 1, by omega, e4, e49, fun k hk => ?_⟩
  rw [e5, e6, e50, e51]
  by_cases e : k = N
  · subst e
    simp only [upd, if_true]
    exact ⟨ht, trivial, trivial⟩
  · have := h3 k (by omega)
    simp only [upd, if_neg e, if_neg (show ¬ 4 * r + k = 4 * r + N by omega)]
    exact this
theorem RELd.add {μ : Mem} {nt nc ni nd np r b n : Nat} (hd : RELd μ nt nc ni nd np) {t v : Int32} (hrb : (r < ni ∧ b = r + 1) ∨ ∃ q, q < 5 * np ∧ r = rq q ∧ b = q + 9) (hn : xnb μ b = n) (h4 : n < 4) (ht : inR t nt) : RELd (addM (addB μ b t v) r t v) nt nc ni nd np := by
  have hb0 : b ≠ 0 := by rcases hrb with h | ⟨q, h⟩ <;> omega
  have hni := hd.I.1
  have hnp := hd.P.1
  have hr : rowOK μ nt r b := by
    rcases hrb with ⟨h1, rfl⟩ | ⟨q, h1, rfl, rfl⟩
    · exact hd.R.1 r h1
    · exact (hd.R.2 q h1).1
  have hm : mnb μ r = n := by rw [← hr.nb]; exact hn
  have hm2 : mnb (addB μ b t v) r = n := hm
  have hw : (addB μ b t v) 32 0 t.toNatClampNeg = μ 2 0 t.toNatClampNeg := by
    show μ 32 0 t.toNatClampNeg = _
    exact hd.T.2.2.2 _ (ht.cl (by have := hd.T.1; omega)).2
  have e4 : (addM (addB μ b t v) r t v) 4 = (mset μ 4 b 0 (nI (n + 1))) 4 := by unfold addM addB; rw [hn]; rfl
  have e5 : (addM (addB μ b t v) r t v) 5 = (mset μ 5 b n t) 5 := by unfold addM addB; rw [hn]; rfl
  have e6 : (addM (addB μ b t v) r t v) 6 = (mset μ 6 b n (if μ 2 0 t.toNatClampNeg = 0 then 0 else v)) 6 := by unfold addM addB; rw [hn]; rfl
  have e49 : (addM (addB μ b t v) r t v) 49 0 = upd (μ 49 0) r (nI (n + 1)) := by unfold addM; rw [hm2]; rfl
  have e50 : (addM (addB μ b t v) r t v) 50 0 = upd (μ 50 0) (4 * r + n) t := by unfold addM; rw [hm2]; rfl
  have e51 : (addM (addB μ b t v) r t v) 51 0 = upd (μ 51 0) (4 * r + n) (if μ 2 0 t.toNatClampNeg = 0 then 0 else v) := by unfold addM; rw [hm2, hw]; rfl
  have ho : ∀ r' b', rowOK μ nt r' b' → b' ≠ b → r' ≠ r → rowOK (addM (addB μ b t v) r t v) nt r' b' := fun r' b' h hb hr => h.cg (by rw [e4, mset_i hb]) (by rw [e5, mset_i hb]) (by rw [e6, mset_i hb]) (by rw [e49]; simp [upd, hr]) (fun k hk => by rw [e50]; simp only [upd, if_neg (show ¬ 4 * r' + k = 4 * r + n by omega)]) (fun k hk => by rw [e51]; simp only [upd, if_neg (show ¬ 4 * r' + k = 4 * r + n by omega)])
  have hy : rowOK (addM (addB μ b t v) r t v) nt r b := row_add (v := v) hr hn h4 ht (by rw [e4]; exact mset_at _ _ _ _ _) (by rw [e5]; exact mset_same _ _ _ _ _) (by rw [e6]; exact mset_same _ _ _ _ _) (by rw [e49]; simp [upd]) e50 e51
  refine ⟨hd.T, ?_, hd.I, hd.D, hd.P, ⟨fun i hi => ?_, fun q hq => ⟨?_, (hd.R.2 q hq).2⟩⟩, ⟨fun i h1 h2 => ?_, fun q h1 h2 => ⟨?_, (hd.Z.2.1 q h1 h2).2⟩, hd.Z.2.2⟩⟩
  · unfold relC
    rw [e4, e5, e6, mset_i (Ne.symm hb0), mset_i (Ne.symm hb0), mset_i (Ne.symm hb0)]
    exact hd.C
  · by_cases e : i + 1 = b
    · rcases hrb with ⟨h1, h2⟩ | ⟨q, h1, h2, h3⟩
      · have : i = r := by omega
        subst this
        rw [e]
        exact hy
      · omega
    · refine ho i (i + 1) (hd.R.1 i hi) e ?_
      rcases hrb with ⟨h1, h2⟩ | ⟨q, h1, h2, h3⟩
      · omega
      · have := rq_ge q; omega
  · by_cases e : q + 9 = b
    · rcases hrb with ⟨h1, h2⟩ | ⟨q', h1, h2, h3⟩
      · omega
      · have : q = q' := by omega
        subst this
        rw [e, ← h2]
        exact hy
    · refine ho (rq q) (q + 9) (hd.R.2 q hq).1 e ?_
      rcases hrb with ⟨h1, h2⟩ | ⟨q', h1, h2, h3⟩
      · have := rq_ge q; omega
      · intro z
        have := rq_inj (by omega) (by omega) (z.trans h2)
        omega
  · rw [e49]
    have : ¬ i = r := by
      rcases hrb with ⟨h3, h4⟩ | ⟨q', h3, h4, h5⟩
      · omega
      · have := rq_ge q'; omega
    simp only [upd, if_neg this]
    exact hd.Z.1 i h1 h2
  · rw [e49]
    have : ¬ rq q = r := by
      rcases hrb with ⟨h3, h4⟩ | ⟨q', h3, h4, h5⟩
      · have := rq_ge q; omega
      · intro z
        have := rq_inj (by omega) (by omega) (z.trans h4)
        omega
    simp only [upd, if_neg this]
    exact (hd.Z.2.1 q h1 h2).1

set_option maxHeartbeats 4000000 in
theorem rel_binding {z : Int32} {μ μ1 μ2 : Mem} {r1 r2 : Option XV} {nt nc ni nd np : Nat} (h : REL μ) (hd : RELd μ nt nc ni nd np) (hx : (fun r μ' => (¬ μ 0 0 7 = 0 ∧ r = some (.inl (-2)) ∧ μ' = μ) ∨ (μ 0 0 7 = 0 ∧ xnt μ = 8 ∧ r = some (.inl (-5)) ∧ μ' = μ) ∨ (μ 0 0 7 = 0 ∧ xnt μ < 8 ∧ r = some (.inl (nI (xnt μ))) ∧ μ' = mset (mset μ 2 0 (xnt μ) z) 1 0 0 (nI (xnt μ + 1)))) r1 μ1) (hm : (fun (μ : Mem) (n : Nat) => (fun r μ' => (¬ μ 24 0 0 = 0 ∧ r = some (.inl (-2)) ∧ μ' = μ) ∨ (μ 24 0 0 = 0 ∧ n = 8 ∧ r = some (.inl (-5)) ∧ μ' = μ) ∨ (μ 24 0 0 = 0 ∧ n < 8 ∧ r = some (.inl (nI n)) ∧ μ' = mset (mset μ 32 0 n z) 24 0 1 (nI (n + 1))))) μ1 nt r2 μ2) : ∃ x, r1 = some (.inl x) ∧ r2 = some (.inl x) ∧ REL μ2 := by
  have hdep := h.2.2.1
  simp only [hd.vT, hd.vI, hd.vD, hd.vP, hd.vC] at hx
  rcases hx with ⟨c0, rfl, rfl⟩ | ⟨c0, cN, rfl, rfl⟩ | ⟨c0, cN, rfl, rfl⟩
  · rcases hm with ⟨d0, rfl, rfl⟩ | ⟨d0, dN, rfl, rfl⟩ | ⟨d0, dN, rfl, rfl⟩
    · exact ⟨_, rfl, rfl, h⟩
    · exact absurd (hdep.symm.trans d0) c0
    · exact absurd (hdep.symm.trans d0) c0
  · rcases hm with ⟨d0, rfl, rfl⟩ | ⟨d0, dN, rfl, rfl⟩ | ⟨d0, dN, rfl, rfl⟩
    · exact absurd (hdep.trans c0) d0
    · exact ⟨_, rfl, rfl, h⟩
    · exact absurd cN (by omega)
  · rcases hm with ⟨d0, rfl, rfl⟩ | ⟨d0, dN, rfl, rfl⟩ | ⟨d0, dN, rfl, rfl⟩
    · exact absurd (hdep.trans c0) d0
    · exact absurd cN (by omega)
    · refine ⟨_, rfl, rfl, ⟨nt + 1, nc, ni, nd, np, ⟨by omega, rfl, rfl, fun k hk => ?_⟩, hd.C.mono (Nat.le_succ _), hd.I, hd.D, hd.P, hd.R.mono (Nat.le_succ _), hd.Z⟩, h.2.1, hdep, fun z => absurd c0 z⟩
      show upd (μ 32 0) nt z k = upd (μ 2 0) nt z k
      simp only [upd]
      split
      · rfl
      · exact hd.T.2.2.2 k (by omega)

set_option maxHeartbeats 4000000 in
theorem rel_carry {a b v : Int32} {μ μ1 μ2 : Mem} {r1 r2 : Option XV} {nt nc ni nd np : Nat} (h : REL μ) (hd : RELd μ nt nc ni nd np) (hx : (fun r μ' => (¬ μ 0 0 7 = 0 ∧ r = some (.inl (-2)) ∧ μ' = μ) ∨ (μ 0 0 7 = 0 ∧ ¬ (inR a (xnt μ) ∧ inR b (xnt μ)) ∧ r = some (.inl (-3)) ∧ μ' = μ) ∨ (μ 0 0 7 = 0 ∧ inR a (xnt μ) ∧ inR b (xnt μ) ∧ xnb μ 0 = 16 ∧ r = some (.inl (-5)) ∧ μ' = μ) ∨ (μ 0 0 7 = 0 ∧ inR a (xnt μ) ∧ inR b (xnt μ) ∧ xnb μ 0 < 16 ∧ r = some (.inl 0) ∧ μ' = mset (mset (mset (mset μ 3 0 (xnb μ 0) a) 5 0 (xnb μ 0) b) 6 0 (xnb μ 0) (if μ 2 0 b.toNatClampNeg = 0 then 0 else v)) 4 0 0 (nI (xnb μ 0 + 1)))) r1 μ1) (hm : (fun (μ : Mem) (n : Nat) (k : Nat) => (fun r μ' => (¬ μ 24 0 0 = 0 ∧ r = some (.inl (-2)) ∧ μ' = μ) ∨ (μ 24 0 0 = 0 ∧ ¬ (inR a n ∧ inR b n) ∧ r = some (.inl (-3)) ∧ μ' = μ) ∨ (μ 24 0 0 = 0 ∧ inR a n ∧ inR b n ∧ k = 16 ∧ r = some (.inl (-5)) ∧ μ' = μ) ∨ (μ 24 0 0 = 0 ∧ inR a n ∧ inR b n ∧ k < 16 ∧ r = some (.inl 0) ∧ μ' = mset (mset (mset (mset μ 34 0 k a) 35 0 k b) 36 0 k (if μ 32 0 b.toNatClampNeg = 0 then 0 else v)) 24 0 3 (nI (k + 1))))) μ1 nt nc r2 μ2) : ∃ x, r1 = some (.inl x) ∧ r2 = some (.inl x) ∧ REL μ2 := by
  have hdep := h.2.2.1
  simp only [hd.vT, hd.vI, hd.vD, hd.vP, hd.vC] at hx
  rcases hx with ⟨c0, rfl, rfl⟩ | ⟨c0, cB, rfl, rfl⟩ | ⟨c0, cR0, cR1, cN, rfl, rfl⟩ | ⟨c0, cR0, cR1, cN, rfl, rfl⟩
  · rcases hm with ⟨d0, rfl, rfl⟩ | ⟨d0, dB, rfl, rfl⟩ | ⟨d0, dR0, dR1, dN, rfl, rfl⟩ | ⟨d0, dR0, dR1, dN, rfl, rfl⟩
    · exact ⟨_, rfl, rfl, h⟩
    · exact absurd (hdep.symm.trans d0) c0
    · exact absurd (hdep.symm.trans d0) c0
    · exact absurd (hdep.symm.trans d0) c0
  · rcases hm with ⟨d0, rfl, rfl⟩ | ⟨d0, dB, rfl, rfl⟩ | ⟨d0, dR0, dR1, dN, rfl, rfl⟩ | ⟨d0, dR0, dR1, dN, rfl, rfl⟩
    · exact absurd (hdep.trans c0) d0
    · exact ⟨_, rfl, rfl, h⟩
    · exact absurd ⟨dR0, dR1⟩ cB
    · exact absurd ⟨dR0, dR1⟩ cB
  · rcases hm with ⟨d0, rfl, rfl⟩ | ⟨d0, dB, rfl, rfl⟩ | ⟨d0, dR0, dR1, dN, rfl, rfl⟩ | ⟨d0, dR0, dR1, dN, rfl, rfl⟩
    · exact absurd (hdep.trans c0) d0
    · exact absurd ⟨cR0, cR1⟩ dB
    · exact ⟨_, rfl, rfl, h⟩
    · exact absurd cN (by omega)
  · rcases hm with ⟨d0, rfl, rfl⟩ | ⟨d0, dB, rfl, rfl⟩ | ⟨d0, dR0, dR1, dN, rfl, rfl⟩ | ⟨d0, dR0, dR1, dN, rfl, rfl⟩
    · exact absurd (hdep.trans c0) d0
    · exact absurd ⟨cR0, cR1⟩ dB
    · exact absurd cN (by omega)
    · have hw : μ 32 0 b.toNatClampNeg = μ 2 0 b.toNatClampNeg := hd.T.2.2.2 _ (cR1.cl (by have := hd.T.1; omega)).2
      refine ⟨_, rfl, rfl, ⟨nt, nc + 1, ni, nd, np, hd.T, ⟨by omega, rfl, rfl, fun k hk => ?_⟩, hd.I, hd.D, hd.P, ⟨fun i hi => (hd.R.1 i hi).cg (by simp [mset]) (by simp [mset]) (by simp [mset]) rfl (fun _ _ => rfl) (fun _ _ => rfl), fun q hq => ⟨(hd.R.2 q hq).1.cg (by simp [mset]) (by simp [mset]) (by simp [mset]) rfl (fun _ _ => rfl) (fun _ _ => rfl), (hd.R.2 q hq).2⟩⟩, hd.Z⟩, h.2.1, hdep, fun z => absurd c0 z⟩
      show inR (upd (μ 3 0) nc a k) nt ∧ inR (upd (μ 5 0) nc b k) nt ∧ upd (μ 34 0) nc a k = upd (μ 3 0) nc a k ∧ upd (μ 35 0) nc b k = upd (μ 5 0) nc b k ∧ upd (μ 36 0) nc (if μ 32 0 b.toNatClampNeg = 0 then 0 else v) k = upd (μ 6 0) nc (if μ 2 0 b.toNatClampNeg = 0 then 0 else v) k
      rw [hw]
      by_cases e : k = nc
      · simp only [upd, if_pos e]
        refine ⟨cR0, cR1, ?_, ?_, ?_⟩ <;> first | rfl | trivial
      · simp only [upd, if_neg e]
        exact hd.C.2.2.2 k (by omega)

set_option maxHeartbeats 4000000 in
theorem rel_interceptor {a b d : Int32} {μ μ1 μ2 : Mem} {r1 r2 : Option XV} {nt nc ni nd np : Nat} (h : REL μ) (hd : RELd μ nt nc ni nd np) (hx : (fun r μ' => (¬ μ 0 0 7 = 0 ∧ r = some (.inl (-2)) ∧ μ' = μ) ∨ (μ 0 0 7 = 0 ∧ ¬ (inR a 10 ∧ inR b 16 ∧ inR d 6) ∧ r = some (.inl (-4)) ∧ μ' = μ) ∨ (μ 0 0 7 = 0 ∧ (inR a 10 ∧ inR b 16 ∧ inR d 6) ∧ xni μ = 8 ∧ r = some (.inl (-5)) ∧ μ' = μ) ∨ (μ 0 0 7 = 0 ∧ (inR a 10 ∧ inR b 16 ∧ inR d 6) ∧ xni μ < 8 ∧ r = some (.inl (nI (xni μ))) ∧ μ' = mset (mset (mset (mset (mset μ 8 (xni μ) 0 a) 8 (xni μ) 1 b) 8 (xni μ) 2 d) 4 (xni μ + 1) 0 0) 0 0 2 (nI (xni μ + 1)))) r1 μ1) (hm : (fun (μ : Mem) (n : Nat) => (fun r μ' => (¬ μ 24 0 0 = 0 ∧ r = some (.inl (-2)) ∧ μ' = μ) ∨ (μ 24 0 0 = 0 ∧ ¬ (inR a 10 ∧ inR b 16 ∧ inR d 6) ∧ r = some (.inl (-4)) ∧ μ' = μ) ∨ (μ 24 0 0 = 0 ∧ (inR a 10 ∧ inR b 16 ∧ inR d 6) ∧ n = 8 ∧ r = some (.inl (-5)) ∧ μ' = μ) ∨ (μ 24 0 0 = 0 ∧ (inR a 10 ∧ inR b 16 ∧ inR d 6) ∧ n < 8 ∧ r = some (.inl (nI n)) ∧ μ' = mset (mset (mset (mset μ 38 0 n a) 39 0 n b) 40 0 n d) 24 0 7 (nI (n + 1))))) μ1 ni r2 μ2) : ∃ x, r1 = some (.inl x) ∧ r2 = some (.inl x) ∧ REL μ2 := by
  have hdep := h.2.2.1
  simp only [hd.vT, hd.vI, hd.vD, hd.vP, hd.vC] at hx
  rcases hx with ⟨c0, rfl, rfl⟩ | ⟨c0, cB, rfl, rfl⟩ | ⟨c0, cR0, cN, rfl, rfl⟩ | ⟨c0, cR0, cN, rfl, rfl⟩
  · rcases hm with ⟨d0, rfl, rfl⟩ | ⟨d0, dB, rfl, rfl⟩ | ⟨d0, dR0, dN, rfl, rfl⟩ | ⟨d0, dR0, dN, rfl, rfl⟩
    · exact ⟨_, rfl, rfl, h⟩
    · exact absurd (hdep.symm.trans d0) c0
    · exact absurd (hdep.symm.trans d0) c0
    · exact absurd (hdep.symm.trans d0) c0
  · rcases hm with ⟨d0, rfl, rfl⟩ | ⟨d0, dB, rfl, rfl⟩ | ⟨d0, dR0, dN, rfl, rfl⟩ | ⟨d0, dR0, dN, rfl, rfl⟩
    · exact absurd (hdep.trans c0) d0
    · exact ⟨_, rfl, rfl, h⟩
    · exact absurd dR0 cB
    · exact absurd dR0 cB
  · rcases hm with ⟨d0, rfl, rfl⟩ | ⟨d0, dB, rfl, rfl⟩ | ⟨d0, dR0, dN, rfl, rfl⟩ | ⟨d0, dR0, dN, rfl, rfl⟩
    · exact absurd (hdep.trans c0) d0
    · exact absurd cR0 dB
    · exact ⟨_, rfl, rfl, h⟩
    · exact absurd cN (by omega)
  · rcases hm with ⟨d0, rfl, rfl⟩ | ⟨d0, dB, rfl, rfl⟩ | ⟨d0, dR0, dN, rfl, rfl⟩ | ⟨d0, dR0, dN, rfl, rfl⟩
    · exact absurd (hdep.trans c0) d0
    · exact absurd cR0 dB
    · exact absurd cN (by omega)
    · have hnp := hd.P.1
      refine ⟨_, rfl, rfl, ⟨nt, nc, ni + 1, nd, np, hd.T, ?_, ⟨by omega, rfl, rfl, fun k hk => ?_⟩, hd.D, hd.P, ⟨fun i hi => ?_, fun q hq => ⟨(hd.R.2 q hq).1.cg (by simp [mset]; omega) rfl rfl rfl (fun _ _ => rfl) (fun _ _ => rfl), (hd.R.2 q hq).2.mono (Nat.le_succ _)⟩⟩, ⟨fun i h1 h2 => hd.Z.1 i (by omega) h2, hd.Z.2⟩⟩, h.2.1, hdep, fun z => absurd c0 z⟩
      · refine ⟨hd.C.1, ?_, hd.C.2.2⟩
        rw [← hd.C.2.1]
        simp [mset]
      · show upd (μ 38 0) ni a k = mset (mset (mset μ 8 ni 0 a) 8 ni 1 b) 8 ni 2 d 8 k 0 ∧ upd (μ 39 0) ni b k = mset (mset (mset μ 8 ni 0 a) 8 ni 1 b) 8 ni 2 d 8 k 1 ∧ upd (μ 40 0) ni d k = mset (mset (mset μ 8 ni 0 a) 8 ni 1 b) 8 ni 2 d 8 k 2
        by_cases e : k = ni
        · subst e
          simp [mset, upd]
        · have := hd.I.2.2.2 k (by omega)
          simp only [upd, if_neg e]
          rw [mset_i e, mset_i e, mset_i e]
          exact this
      · by_cases e : i = ni
        · subst e
          refine ⟨0, by omega, ?_, hd.Z.1 i (Nat.le_refl _) cN, fun k hk => absurd hk (Nat.not_lt_zero _)⟩
          simp [mset, upd]
          rfl
        · exact (hd.R.1 i (by omega)).cg (by simp [mset, e]) rfl rfl rfl (fun _ _ => rfl) (fun _ _ => rfl)

set_option maxHeartbeats 4000000 in
theorem rel_decorator {a b d f : Int32} {μ μ1 μ2 : Mem} {r1 r2 : Option XV} {nt nc ni nd np : Nat} (h : REL μ) (hd : RELd μ nt nc ni nd np) (hx : (fun r μ' => (¬ μ 0 0 7 = 0 ∧ r = some (.inl (-2)) ∧ μ' = μ) ∨ (μ 0 0 7 = 0 ∧ ¬ (inR a 10 ∧ inR b 8 ∧ inR d 16 ∧ inR f 6) ∧ r = some (.inl (-4)) ∧ μ' = μ) ∨ (μ 0 0 7 = 0 ∧ (inR a 10 ∧ inR b 8 ∧ inR d 16 ∧ inR f 6) ∧ xnd μ = 4 ∧ r = some (.inl (-5)) ∧ μ' = μ) ∨ (μ 0 0 7 = 0 ∧ (inR a 10 ∧ inR b 8 ∧ inR d 16 ∧ inR f 6) ∧ xnd μ < 4 ∧ r = some (.inl (nI (xnd μ))) ∧ μ' = mset (mset (mset (mset (mset μ 10 (xnd μ) 0 a) 10 (xnd μ) 1 b) 10 (xnd μ) 2 d) 10 (xnd μ) 3 f) 0 0 4 (nI (xnd μ + 1)))) r1 μ1) (hm : (fun (μ : Mem) (n : Nat) => (fun r μ' => (¬ μ 24 0 0 = 0 ∧ r = some (.inl (-2)) ∧ μ' = μ) ∨ (μ 24 0 0 = 0 ∧ ¬ (inR a 10 ∧ inR b 8 ∧ inR d 16 ∧ inR f 6) ∧ r = some (.inl (-4)) ∧ μ' = μ) ∨ (μ 24 0 0 = 0 ∧ (inR a 10 ∧ inR b 8 ∧ inR d 16 ∧ inR f 6) ∧ n = 4 ∧ r = some (.inl (-5)) ∧ μ' = μ) ∨ (μ 24 0 0 = 0 ∧ (inR a 10 ∧ inR b 8 ∧ inR d 16 ∧ inR f 6) ∧ n < 4 ∧ r = some (.inl (nI n)) ∧ μ' = mset (mset (mset (mset (mset μ 42 0 n a) 43 0 n b) 44 0 n d) 45 0 n f) 24 0 11 (nI (n + 1))))) μ1 nd r2 μ2) : ∃ x, r1 = some (.inl x) ∧ r2 = some (.inl x) ∧ REL μ2 := by
  have hdep := h.2.2.1
  simp only [hd.vT, hd.vI, hd.vD, hd.vP, hd.vC] at hx
  rcases hx with ⟨c0, rfl, rfl⟩ | ⟨c0, cB, rfl, rfl⟩ | ⟨c0, cR0, cN, rfl, rfl⟩ | ⟨c0, cR0, cN, rfl, rfl⟩
  · rcases hm with ⟨d0, rfl, rfl⟩ | ⟨d0, dB, rfl, rfl⟩ | ⟨d0, dR0, dN, rfl, rfl⟩ | ⟨d0, dR0, dN, rfl, rfl⟩
    · exact ⟨_, rfl, rfl, h⟩
    · exact absurd (hdep.symm.trans d0) c0
    · exact absurd (hdep.symm.trans d0) c0
    · exact absurd (hdep.symm.trans d0) c0
  · rcases hm with ⟨d0, rfl, rfl⟩ | ⟨d0, dB, rfl, rfl⟩ | ⟨d0, dR0, dN, rfl, rfl⟩ | ⟨d0, dR0, dN, rfl, rfl⟩
    · exact absurd (hdep.trans c0) d0
    · exact ⟨_, rfl, rfl, h⟩
    · exact absurd dR0 cB
    · exact absurd dR0 cB
  · rcases hm with ⟨d0, rfl, rfl⟩ | ⟨d0, dB, rfl, rfl⟩ | ⟨d0, dR0, dN, rfl, rfl⟩ | ⟨d0, dR0, dN, rfl, rfl⟩
    · exact absurd (hdep.trans c0) d0
    · exact absurd cR0 dB
    · exact ⟨_, rfl, rfl, h⟩
    · exact absurd cN (by omega)
  · rcases hm with ⟨d0, rfl, rfl⟩ | ⟨d0, dB, rfl, rfl⟩ | ⟨d0, dR0, dN, rfl, rfl⟩ | ⟨d0, dR0, dN, rfl, rfl⟩
    · exact absurd (hdep.trans c0) d0
    · exact absurd cR0 dB
    · exact absurd cN (by omega)
    · refine ⟨_, rfl, rfl, ⟨nt, nc, ni, nd + 1, np, hd.T, hd.C, hd.I, ⟨by omega, rfl, rfl, fun k hk => ?_⟩, hd.P, hd.R, hd.Z⟩, h.2.1, hdep, fun z => absurd c0 z⟩
      show upd (μ 42 0) nd a k = mset (mset (mset (mset μ 10 nd 0 a) 10 nd 1 b) 10 nd 2 d) 10 nd 3 f 10 k 0 ∧ upd (μ 43 0) nd b k = mset (mset (mset (mset μ 10 nd 0 a) 10 nd 1 b) 10 nd 2 d) 10 nd 3 f 10 k 1 ∧ upd (μ 44 0) nd d k = mset (mset (mset (mset μ 10 nd 0 a) 10 nd 1 b) 10 nd 2 d) 10 nd 3 f 10 k 2 ∧ upd (μ 45 0) nd f k = mset (mset (mset (mset μ 10 nd 0 a) 10 nd 1 b) 10 nd 2 d) 10 nd 3 f 10 k 3
      by_cases e : k = nd
      · subst e
        simp [mset, upd]
      · have := hd.D.2.2.2 k (by omega)
        simp only [upd, if_neg e]
        rw [mset_i e, mset_i e, mset_i e, mset_i e]
        exact this
