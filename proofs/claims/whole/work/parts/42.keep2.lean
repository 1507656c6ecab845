theorem pDecl_f {μ : Mem} {j : Nat} {a : Int32} {f : Nat} (h4 : f ≠ 4) (h12 : f ≠ 12) (h13 : f ≠ 13) : ∀ n, pDecl μ j a n f = μ f
  | 0 => by unfold pDecl pForget; rw [mset_f h13, mset_f h13, mset_f h4, mset_f h12]
  | n + 1 => by unfold pDecl pForget; rw [mset_f h13, mset_f h13, mset_f h4, pDecl_f h4 h12 h13 n]
theorem pDecl_12 {μ : Mem} {j : Nat} {a : Int32} : ∀ n, pDecl μ j a n 12 = mset μ 12 j 0 a 12
  | 0 => by unfold pDecl pForget; rw [mset_f (by decide), mset_f (by decide), mset_f (by decide)]
  | n + 1 => by unfold pDecl pForget; rw [mset_f (by decide), mset_f (by decide), mset_f (by decide), pDecl_12 n]
theorem pDecl_old {μ : Mem} {j : Nat} {a : Int32} {q : Nat} (hq : q < 5 * j) : ∀ n, pDecl μ j a n 4 (q + 9) = μ 4 (q + 9) ∧ pDecl μ j a n 13 q = μ 13 q
  | 0 => by
    unfold pDecl pForget
    rw [mset_f (by decide), mset_f (by decide), mset_i (by omega), mset_f (by decide), mset_i (by omega), mset_i (by omega), mset_f (by decide), mset_f (by decide)]
    exact ⟨rfl, rfl⟩
  | n + 1 => by
    have ih := pDecl_old (μ := μ) (a := a) hq n
    unfold pDecl pForget
    rw [mset_f (by decide), mset_f (by decide), mset_i (by omega), mset_i (by omega), mset_i (by omega), mset_f (by decide)]
    exact ih
theorem pDecl_l {μ : Mem} {j : Nat} {a : Int32} {b : Nat} (hb : b < 9) : ∀ n, pDecl μ j a n 4 b = μ 4 b
  | 0 => by unfold pDecl pForget; rw [mset_f (by decide), mset_f (by decide), mset_i (by omega), mset_f (by decide)]
  | n + 1 => by unfold pDecl pForget; rw [mset_f (by decide), mset_f (by decide), mset_i (by omega), pDecl_l hb n]
theorem pDecl_z {μ : Mem} {j : Nat} {a : Int32} {s : Nat} : ∀ n, s ≤ n → pDecl μ j a n 4 (5 * j + s + 9) 0 = 0 ∧ pDecl μ j a n 13 (5 * j + s) 2 = 0 ∧ pDecl μ j a n 13 (5 * j + s) 3 = 0
  | 0, h => by
    have : s = 0 := by omega
    subst this
    unfold pDecl pForget
    simp [mset, upd]
  | n + 1, h => by
    by_cases e : s = n + 1
    · subst e
      unfold pDecl pForget
      rw [show 5 * j + (n + 1) = 5 * j + 1 + n by omega]
      simp [mset, upd]
    · have ih := pDecl_z (μ := μ) (j := j) (a := a) n (s := s) (by omega)
      unfold pDecl pForget
      rw [mset_f (by decide), mset_f (by decide), mset_i (by omega), mset_i (by omega), mset_i (by omega), mset_f (by decide)]
      exact ih

set_option maxHeartbeats 4000000 in
theorem rel_component {a : Int32} {μ μ1 μ2 : Mem} {r1 r2 : Option XV} {nt nc ni nd np : Nat} (h : REL μ) (hd : RELd μ nt nc ni nd np) (hx : (fun r μ' => (¬ μ 0 0 7 = 0 ∧ r = some (.inl (-2)) ∧ μ' = μ) ∨ (μ 0 0 7 = 0 ∧ ¬ inR a 256 ∧ r = some (.inl (-4)) ∧ μ' = μ) ∨ (μ 0 0 7 = 0 ∧ inR a 256 ∧ xnp μ = 4 ∧ r = some (.inl (-5)) ∧ μ' = μ) ∨ (μ 0 0 7 = 0 ∧ inR a 256 ∧ xnp μ < 4 ∧ r = some (.inl (nI (xnp μ))) ∧ μ' = mset (pDecl μ (xnp μ) a 4) 0 0 6 (nI (xnp μ + 1)))) r1 μ1) (hm : (fun (μ : Mem) (n : Nat) => (fun r μ' => (¬ μ 24 0 0 = 0 ∧ r = some (.inl (-2)) ∧ μ' = μ) ∨ (μ 24 0 0 = 0 ∧ ¬ inR a 256 ∧ r = some (.inl (-4)) ∧ μ' = μ) ∨ (μ 24 0 0 = 0 ∧ inR a 256 ∧ n = 4 ∧ r = some (.inl (-5)) ∧ μ' = μ) ∨ (μ 24 0 0 = 0 ∧ inR a 256 ∧ n < 4 ∧ r = some (.inl (nI n)) ∧ μ' = mset (mset μ 47 0 n a) 24 0 16 (nI (n + 1))))) μ1 np r2 μ2) : ∃ x, r1 = some (.inl x) ∧ r2 = some (.inl x) ∧ REL μ2 := by
  have hdep := h.2.2.1
  simp only [hd.vT, hd.vI, hd.vD, hd.vP, hd.vC] at hx
  rcases hx with ⟨c0, rfl, rfl⟩ | ⟨c0, cB, rfl, rfl⟩ | ⟨c0, cR0, cN, rfl, rfl⟩ | ⟨c0, cR0, cN, rfl, rfl⟩
  · rcases hm with ⟨d0, rfl, rfl⟩ | ⟨d0, dB, rfl, rfl⟩ | ⟨d0, dR0, dN, rfl, rfl⟩ | ⟨d0, dR0, dN, rfl, rfl⟩
    · exact ⟨_, rfl, rfl, h⟩
    · exact absurd (hdep.symm.trans d0) c0
    · exact absurd (hdep.symm.trans d0) c0
    · exact absurd (hdep.symm.trans d0) c0
  · rcases hm with ⟨d0, rfl, rfl⟩ | ⟨d0, dB, rfl, rfl⟩ | ⟨d0, dR0, dN, rfl, rfl⟩ | ⟨d0, dR0, dN, rfl, rfl⟩
    · exact absurd (hdep.trans c0) d0
    · exact ⟨_, rfl, rfl, h⟩
    · exact absurd dR0 cB
    · exact absurd dR0 cB
  · rcases hm with ⟨d0, rfl, rfl⟩ | ⟨d0, dB, rfl, rfl⟩ | ⟨d0, dR0, dN, rfl, rfl⟩ | ⟨d0, dR0, dN, rfl, rfl⟩
    · exact absurd (hdep.trans c0) d0
    · exact absurd cR0 dB
    · exact ⟨_, rfl, rfl, h⟩
    · exact absurd cN (by omega)
  · rcases hm with ⟨d0, rfl, rfl⟩ | ⟨d0, dB, rfl, rfl⟩ | ⟨d0, dR0, dN, rfl, rfl⟩ | ⟨d0, dR0, dN, rfl, rfl⟩
    · exact absurd (hdep.trans c0) d0
    · exact absurd cR0 dB
    · exact absurd cN (by omega)
    · have hni := hd.I.1
      have e4 : ∀ b, b < 9 → (mset (mset (mset (pDecl μ np a 4) 0 0 6 (nI (np + 1))) 47 0 np a) 24 0 16 (nI (np + 1))) 4 b = μ 4 b := fun b hb => pDecl_l hb 4
      have ef : ∀ f, f ≠ 4 → f ≠ 12 → f ≠ 13 → f ≠ 0 → f ≠ 47 → f ≠ 24 → (mset (mset (mset (pDecl μ np a 4) 0 0 6 (nI (np + 1))) 47 0 np a) 24 0 16 (nI (np + 1))) f = μ f := fun f a1 a2 a3 a4 a5 a6 => by rw [mset_f a6, mset_f a5, mset_f a4, pDecl_f a1 a2 a3]
      have e0 : ∀ j, j ≠ 6 → (mset (mset (mset (pDecl μ np a 4) 0 0 6 (nI (np + 1))) 47 0 np a) 24 0 16 (nI (np + 1))) 0 0 j = μ 0 0 j := fun j hj => by rw [mset_f (by decide), mset_f (by decide), mset_j hj, pDecl_f (by decide) (by decide) (by decide)]
      have e24 : ∀ j, j ≠ 16 → (mset (mset (mset (pDecl μ np a 4) 0 0 6 (nI (np + 1))) 47 0 np a) 24 0 16 (nI (np + 1))) 24 0 j = μ 24 0 j := fun j hj => by rw [mset_j hj, mset_f (by decide), mset_f (by decide), pDecl_f (by decide) (by decide) (by decide)]
      have e13 : (mset (mset (mset (pDecl μ np a 4) 0 0 6 (nI (np + 1))) 47 0 np a) 24 0 16 (nI (np + 1))) 13 = pDecl μ np a 4 13 := by rw [mset_f (by decide), mset_f (by decide), mset_f (by decide)]
      have e44 : (mset (mset (mset (pDecl μ np a 4) 0 0 6 (nI (np + 1))) 47 0 np a) 24 0 16 (nI (np + 1))) 4 = pDecl μ np a 4 4 := by rw [mset_f (by decide), mset_f (by decide), mset_f (by decide)]
      have e47 : (mset (mset (mset (pDecl μ np a 4) 0 0 6 (nI (np + 1))) 47 0 np a) 24 0 16 (nI (np + 1))) 47 0 = upd (μ 47 0) np a := by rw [mset_f (by decide), mset_same, mset_f (by decide), pDecl_f (by decide) (by decide) (by decide)]
      have e12 : (mset (mset (mset (pDecl μ np a 4) 0 0 6 (nI (np + 1))) 47 0 np a) 24 0 16 (nI (np + 1))) 12 = mset μ 12 np 0 a 12 := by rw [mset_f (by decide), mset_f (by decide), mset_f (by decide), pDecl_12]
      have e06 : (mset (mset (mset (pDecl μ np a 4) 0 0 6 (nI (np + 1))) 47 0 np a) 24 0 16 (nI (np + 1))) 0 0 6 = nI (np + 1) := by rw [mset_f (by decide), mset_f (by decide), mset_at]
      have e2416 : (mset (mset (mset (pDecl μ np a 4) 0 0 6 (nI (np + 1))) 47 0 np a) 24 0 16 (nI (np + 1))) 24 0 16 = nI (np + 1) := mset_at _ _ _ _ _
      have hdep2 : (mset (mset (mset (pDecl μ np a 4) 0 0 6 (nI (np + 1))) 47 0 np a) 24 0 16 (nI (np + 1))) 24 0 0 = (mset (mset (mset (pDecl μ np a 4) 0 0 6 (nI (np + 1))) 47 0 np a) 24 0 16 (nI (np + 1))) 0 0 7 := by rw [e24 0 (by decide), e0 7 (by decide)]; exact hdep
      have c02 : (mset (mset (mset (pDecl μ np a 4) 0 0 6 (nI (np + 1))) 47 0 np a) 24 0 16 (nI (np + 1))) 0 0 7 = 0 := by rw [e0 7 (by decide)]; exact c0
      generalize mset (mset (mset (pDecl μ np a 4) 0 0 6 (nI (np + 1))) 47 0 np a) 24 0 16 (nI (np + 1)) = ν at e4 ef e0 e24 e13 e44 e47 e12 e06 e2416 hdep2 c02 ⊢
      refine ⟨_, rfl, rfl, ⟨nt, nc, ni, nd, np + 1, ?_, ?_, ?_, ?_, ⟨by omega, e06, e2416, fun c hc => ?_⟩, ⟨fun i hi => ?_, fun q hq => ?_⟩, ⟨?_, fun q h1 h2 => ?_, fun k h1 h2 => ?_⟩⟩, ?_, hdep2, fun z => absurd c02 z⟩
      · unfold relT
        rw [ef 1 (by decide) (by decide) (by decide) (by decide) (by decide) (by decide), ef 2 (by decide) (by decide) (by decide) (by decide) (by decide) (by decide), ef 32 (by decide) (by decide) (by decide) (by decide) (by decide) (by decide), e24 1 (by decide)]
        exact hd.T
      · unfold relC
        rw [e4 0 (by omega), ef 3 (by decide) (by decide) (by decide) (by decide) (by decide) (by decide), ef 5 (by decide) (by decide) (by decide) (by decide) (by decide) (by decide), ef 6 (by decide) (by decide) (by decide) (by decide) (by decide) (by decide), ef 34 (by decide) (by decide) (by decide) (by decide) (by decide) (by decide), ef 35 (by decide) (by decide) (by decide) (by decide) (by decide) (by decide), ef 36 (by decide) (by decide) (by decide) (by decide) (by decide) (by decide), e24 3 (by decide)]
        exact hd.C
      · unfold relI
        rw [e0 2 (by decide), e24 7 (by decide), ef 8 (by decide) (by decide) (by decide) (by decide) (by decide) (by decide), ef 38 (by decide) (by decide) (by decide) (by decide) (by decide) (by decide), ef 39 (by decide) (by decide) (by decide) (by decide) (by decide) (by decide), ef 40 (by decide) (by decide) (by decide) (by decide) (by decide) (by decide)]
        exact hd.I
      · unfold relD
        rw [e0 4 (by decide), e24 11 (by decide), ef 10 (by decide) (by decide) (by decide) (by decide) (by decide) (by decide), ef 42 (by decide) (by decide) (by decide) (by decide) (by decide) (by decide), ef 43 (by decide) (by decide) (by decide) (by decide) (by decide) (by decide), ef 44 (by decide) (by decide) (by decide) (by decide) (by decide) (by decide), ef 45 (by decide) (by decide) (by decide) (by decide) (by decide) (by decide)]
        exact hd.D
      · rw [e47, e12, e13, ef 48 (by decide) (by decide) (by decide) (by decide) (by decide) (by decide)]
        by_cases e : c = np
        · subst e
          refine ⟨by rw [mset_at]; simp [upd], fun m hm => ?_⟩
          rw [hd.Z.2.2 (4 * c + m) (by omega) (by omega)]
          have := (pDecl_z (μ := μ) (j := c) (a := a) (s := 1 + m) 4 (by omega)).2.2
          rw [show 5 * c + (1 + m) = 5 * c + 1 + m by omega] at this
          exact this.symm
        · have hP := hd.P.2.2.2 c (by omega)
          refine ⟨by rw [mset_i e]; simp only [upd, if_neg e]; exact hP.1, fun m hm => ?_⟩
          rw [(pDecl_old (show 5 * c + 1 + m < 5 * np by omega) 4).2]
          exact hP.2 m hm
      · exact (hd.R.1 i hi).cg (e4 _ (by omega)) (by rw [ef 5 (by decide) (by decide) (by decide) (by decide) (by decide) (by decide)]) (by rw [ef 6 (by decide) (by decide) (by decide) (by decide) (by decide) (by decide)]) (by rw [ef 49 (by decide) (by decide) (by decide) (by decide) (by decide) (by decide)]) (fun k _ => by rw [ef 50 (by decide) (by decide) (by decide) (by decide) (by decide) (by decide)]) (fun k _ => by rw [ef 51 (by decide) (by decide) (by decide) (by decide) (by decide) (by decide)])
      · by_cases e : q < 5 * np
        · have hR := hd.R.2 q e
          exact ⟨hR.1.cg (by rw [e44, (pDecl_old e 4).1]) (by rw [ef 5 (by decide) (by decide) (by decide) (by decide) (by decide) (by decide)]) (by rw [ef 6 (by decide) (by decide) (by decide) (by decide) (by decide) (by decide)]) (by rw [ef 49 (by decide) (by decide) (by decide) (by decide) (by decide) (by decide)]) (fun k _ => by rw [ef 50 (by decide) (by decide) (by decide) (by decide) (by decide) (by decide)]) (fun k _ => by rw [ef 51 (by decide) (by decide) (by decide) (by decide) (by decide) (by decide)]),
            hR.2.cg (by rw [e13, (pDecl_old e 4).2]) (by rw [ef 14 (by decide) (by decide) (by decide) (by decide) (by decide) (by decide)]) (by rw [ef 52 (by decide) (by decide) (by decide) (by decide) (by decide) (by decide)]) (fun k _ => by rw [ef 53 (by decide) (by decide) (by decide) (by decide) (by decide) (by decide)])⟩
        · have hz := hd.Z.2.1 q (by omega) (by omega)
          have hp := pDecl_z (μ := μ) (j := np) (a := a) (s := q - 5 * np) 4 (by omega)
          rw [show 5 * np + (q - 5 * np) = q by omega] at hp
          exact ⟨⟨0, by omega, by rw [e44]; exact hp.1, by rw [ef 49 (by decide) (by decide) (by decide) (by decide) (by decide) (by decide)]; exact hz.1, fun k hk => absurd hk (Nat.not_lt_zero _)⟩,
            ⟨0, by omega, by rw [e13]; exact hp.2.1, by rw [ef 52 (by decide) (by decide) (by decide) (by decide) (by decide) (by decide)]; exact hz.2, fun k hk => absurd hk (Nat.not_lt_zero _)⟩⟩
      · rw [ef 49 (by decide) (by decide) (by decide) (by decide) (by decide) (by decide)]; exact hd.Z.1
      · rw [ef 49 (by decide) (by decide) (by decide) (by decide) (by decide) (by decide), ef 52 (by decide) (by decide) (by decide) (by decide) (by decide) (by decide)]; exact hd.Z.2.1 q (by omega) h2
      · rw [ef 48 (by decide) (by decide) (by decide) (by decide) (by decide) (by decide)]; exact hd.Z.2.2 k (by omega) h2
      · unfold relL
        rw [ef 22 (by decide) (by decide) (by decide) (by decide) (by decide) (by decide), ef 23 (by decide) (by decide) (by decide) (by decide) (by decide) (by decide), ef 66 (by decide) (by decide) (by decide) (by decide) (by decide) (by decide), e24 35 (by decide), e24 37 (by decide), e24 38 (by decide)]
        exact h.2.1

set_option maxHeartbeats 4000000 in
theorem rel_bindInterceptor {a b v : Int32} {μ μ1 μ2 : Mem} {r1 r2 : Option XV} {nt nc ni nd np : Nat} (h : REL μ) (hd : RELd μ nt nc ni nd np) (hx : (fun r μ' => (¬ μ 0 0 7 = 0 ∧ r = some (.inl (-2)) ∧ μ' = μ) ∨ (μ 0 0 7 = 0 ∧ ¬ (inR a (xni μ) ∧ inR b (xnt μ)) ∧ r = some (.inl (-3)) ∧ μ' = μ) ∨ (μ 0 0 7 = 0 ∧ ∃ i, i < xni μ ∧ a = nI i ∧ inR b (xnt μ) ∧ ((xnb μ (i + 1) = 4 ∧ r = some (.inl (-5)) ∧ μ' = μ) ∨ (xnb μ (i + 1) < 4 ∧ r = some (.inl 0) ∧ μ' = addB μ (i + 1) b v)))) r1 μ1) (hm : (fun (μ : Mem) (n : Nat) (k : Nat) => (fun r μ' => (¬ μ 24 0 0 = 0 ∧ r = some (.inl (-2)) ∧ μ' = μ) ∨ (μ 24 0 0 = 0 ∧ ¬ (inR a k ∧ inR b n) ∧ r = some (.inl (-3)) ∧ μ' = μ) ∨ (μ 24 0 0 = 0 ∧ ∃ i, i < k ∧ a = nI i ∧ inR b n ∧ ((mnb μ i = 4 ∧ r = some (.inl (-5)) ∧ μ' = μ) ∨ (mnb μ i < 4 ∧ r = some (.inl 0) ∧ μ' = addM μ i b v))))) μ1 nt ni r2 μ2) : ∃ x, r1 = some (.inl x) ∧ r2 = some (.inl x) ∧ REL μ2 := by
  have hdep := h.2.2.1
  simp only [hd.vT, hd.vI, hd.vD, hd.vP, hd.vC] at hx
  rcases hx with ⟨c0, rfl, rfl⟩ | ⟨c0, cB, rfl, rfl⟩ | ⟨c0, i, hi, ea, hb, hc⟩
  · rcases hm with ⟨d0, rfl, rfl⟩ | ⟨d0, dB, rfl, rfl⟩ | ⟨d0, -⟩
    · exact ⟨_, rfl, rfl, h⟩
    · exact absurd (hdep.symm.trans d0) c0
    · exact absurd (hdep.symm.trans d0) c0
  · rcases hm with ⟨d0, rfl, rfl⟩ | ⟨d0, dB, rfl, rfl⟩ | ⟨d0, i2, hi2, ea2, hb2, hdd⟩
    · exact absurd (hdep.trans c0) d0
    · exact ⟨_, rfl, rfl, h⟩
    · exact absurd ⟨⟨i2, hi2, ea2⟩, hb2⟩ cB
  · rcases hc with ⟨cN, rfl, rfl⟩ | ⟨cN, rfl, rfl⟩
    all_goals rcases hm with ⟨d0, rfl, rfl⟩ | ⟨d0, dB, rfl, rfl⟩ | ⟨d0, i2, hi2, ea2, hb2, hdd⟩
    · exact absurd (hdep.trans c0) d0
    · exact absurd ⟨⟨i, hi, ea⟩, hb⟩ dB
    · have hni := hd.I.1
      have : i2 = i := (nI_eq (by omega) (by omega)).mp (ea2.symm.trans ea)
      subst this
      have hnb := (hd.R.1 i2 hi).nb
      rw [← hnb] at hdd
      rcases hdd with ⟨dN, rfl, rfl⟩ | ⟨dN, rfl, rfl⟩
      · exact ⟨_, rfl, rfl, h⟩
      · exact absurd cN (by omega)
    · exact absurd (hdep.trans c0) d0
    · exact absurd ⟨⟨i, hi, ea⟩, hb⟩ dB
    · have hni := hd.I.1
      have : i2 = i := (nI_eq (by omega) (by omega)).mp (ea2.symm.trans ea)
      subst this
      have hnb := (hd.R.1 i2 hi).nb
      have hm2 : mnb (addB μ (i2 + 1) b v) i2 = mnb μ i2 := rfl
      try rw [hm2] at hdd
      rw [← hnb] at hdd
      rcases hdd with ⟨dN, rfl, rfl⟩ | ⟨dN, rfl, rfl⟩
      · exact absurd cN (by omega)
      · exact ⟨_, rfl, rfl, ⟨nt, nc, ni, nd, np, hd.add (Or.inl ⟨hi, rfl⟩) rfl cN hb⟩, h.2.1, hdep, fun z => absurd c0 z⟩

theorem lstOK.nb {μ : Mem} {ni r q : Nat} (h : lstOK μ ni r q) : mnl μ r = xnl μ q := by
  obtain ⟨N, h0, h1, h2, h3⟩ := h
  unfold mnl xnl
  rw [h1, h2]
theorem five_of {y : Int32} {k : Nat} (hk : k < 5) (e : y = nI k - 1) : ¬ y < -1 ∧ ¬ 4 ≤ y := by
  have : k = 0 ∨ k = 1 ∨ k = 2 ∨ k = 3 ∨ k = 4 := by omega
  subst e
  rcases this with rfl | rfl | rfl | rfl | rfl <;> decide
theorem five_inj {k k' : Nat} (hk : k < 5) (hk' : k' < 5) (e : nI k - 1 = nI k' - 1) : k = k' := by
  have h1 : k = 0 ∨ k = 1 ∨ k = 2 ∨ k = 3 ∨ k = 4 := by omega
  have h2 : k' = 0 ∨ k' = 1 ∨ k' = 2 ∨ k' = 3 ∨ k' = 4 := by omega
  rcases h1 with rfl | rfl | rfl | rfl | rfl <;> rcases h2 with rfl | rfl | rfl | rfl | rfl <;> first | rfl | (exact absurd e (by decide))

set_option maxHeartbeats 4000000 in
theorem rel_bind {a y b v : Int32} {μ μ1 μ2 : Mem} {r1 r2 : Option XV} {nt nc ni nd np : Nat} (h : REL μ) (hd : RELd μ nt nc ni nd np) (hx : (fun r μ' => (¬ μ 0 0 7 = 0 ∧ r = some (.inl (-2)) ∧ μ' = μ) ∨ (μ 0 0 7 = 0 ∧ ¬ ((inR a (xnp μ) ∧ ¬ y < -1 ∧ ¬ 4 ≤ y) ∧ inR b (xnt μ)) ∧ r = some (.inl (-3)) ∧ μ' = μ) ∨ (μ 0 0 7 = 0 ∧ ∃ j k, j < xnp μ ∧ k < 5 ∧ a = nI j ∧ y = nI k - 1 ∧ inR b (xnt μ) ∧ ((xnb μ (5 * j + k + 9) = 4 ∧ r = some (.inl (-5)) ∧ μ' = μ) ∨ (xnb μ (5 * j + k + 9) < 4 ∧ r = some (.inl 0) ∧ μ' = addB μ (5 * j + k + 9) b v)))) r1 μ1) (hm : (fun (μ : Mem) (n : Nat) (k : Nat) => (fun r μ' => (¬ μ 24 0 0 = 0 ∧ r = some (.inl (-2)) ∧ μ' = μ) ∨ (μ 24 0 0 = 0 ∧ ¬ ((inR a k ∧ ¬ y < -1 ∧ ¬ 4 ≤ y) ∧ inR b n) ∧ r = some (.inl (-3)) ∧ μ' = μ) ∨ (μ 24 0 0 = 0 ∧ ∃ j u, j < k ∧ u < 5 ∧ a = nI j ∧ y = nI u - 1 ∧ inR b n ∧ ((mnb μ (rq (5 * j + u)) = 4 ∧ r = some (.inl (-5)) ∧ μ' = μ) ∨ (mnb μ (rq (5 * j + u)) < 4 ∧ r = some (.inl 0) ∧ μ' = addM μ (rq (5 * j + u)) b v))))) μ1 nt np r2 μ2) : ∃ x, r1 = some (.inl x) ∧ r2 = some (.inl x) ∧ REL μ2 := by
  have hdep := h.2.2.1
  simp only [hd.vT, hd.vI, hd.vD, hd.vP, hd.vC] at hx
  rcases hx with ⟨c0, rfl, rfl⟩ | ⟨c0, cB, rfl, rfl⟩ | ⟨c0, j, k, hj, hk, ea, ey, hb, hc⟩
  · rcases hm with ⟨d0, rfl, rfl⟩ | ⟨d0, dB, rfl, rfl⟩ | ⟨d0, -⟩
    · exact ⟨_, rfl, rfl, h⟩
    · exact absurd (hdep.symm.trans d0) c0
    · exact absurd (hdep.symm.trans d0) c0
  · rcases hm with ⟨d0, rfl, rfl⟩ | ⟨d0, dB, rfl, rfl⟩ | ⟨d0, j2, k2, hj2, hk2, ea2, ey2, hb2, hdd⟩
    · exact absurd (hdep.trans c0) d0
    · exact ⟨_, rfl, rfl, h⟩
    · exact absurd ⟨⟨⟨j2, hj2, ea2⟩, five_of hk2 ey2⟩, hb2⟩ cB
  · rcases hc with ⟨cN, rfl, rfl⟩ | ⟨cN, rfl, rfl⟩
    all_goals rcases hm with ⟨d0, rfl, rfl⟩ | ⟨d0, dB, rfl, rfl⟩ | ⟨d0, j2, k2, hj2, hk2, ea2, ey2, hb2, hdd⟩
    · exact absurd (hdep.trans c0) d0
    · exact absurd ⟨⟨⟨j, hj, ea⟩, five_of hk ey⟩, hb⟩ dB
    · have hnp := hd.P.1
      have : j2 = j := (nI_eq (by omega) (by omega)).mp (ea2.symm.trans ea)
      subst this
      have : k2 = k := five_inj hk2 hk (ey2.symm.trans ey)
      subst this
      have hnb := (hd.R.2 (5 * j2 + k2) (by omega)).1.nb
      rw [← hnb] at hdd
      rcases hdd with ⟨dN, rfl, rfl⟩ | ⟨dN, rfl, rfl⟩
      · exact ⟨_, rfl, rfl, h⟩
      · exact absurd cN (by omega)
    · exact absurd (hdep.trans c0) d0
    · exact absurd ⟨⟨⟨j, hj, ea⟩, five_of hk ey⟩, hb⟩ dB
    · have hnp := hd.P.1
      have : j2 = j := (nI_eq (by omega) (by omega)).mp (ea2.symm.trans ea)
      subst this
      have : k2 = k := five_inj hk2 hk (ey2.symm.trans ey)
      subst this
      have hnb := (hd.R.2 (5 * j2 + k2) (by omega)).1.nb
      have hm2 : mnb (addB μ (5 * j2 + k2 + 9) b v) (rq (5 * j2 + k2)) = mnb μ (rq (5 * j2 + k2)) := rfl
      try rw [hm2] at hdd
      rw [← hnb] at hdd
      rcases hdd with ⟨dN, rfl, rfl⟩ | ⟨dN, rfl, rfl⟩
      · exact absurd cN (by omega)
      · exact ⟨_, rfl, rfl, ⟨nt, nc, ni, nd, np, hd.add (Or.inr ⟨5 * j2 + k2, by omega, rfl, rfl⟩) rfl cN hb⟩, h.2.1, hdep, fun z => absurd c0 z⟩

theorem RELd.lst {μ : Mem} {nt nc ni nd np q n : Nat} (hd : RELd μ nt nc ni nd np) {b : Int32} (hq : q < 5 * np) (hn : xnl μ q = n) (h4 : n < 4) (hb : inR b ni) : RELd (mset (mset (mset (mset μ 14 q n b) 13 q 2 (nI (n + 1))) 53 0 (4 * rq q + n) b) 52 0 (rq q) (nI (n + 1))) nt nc ni nd np := by
  have hnp := hd.P.1
  refine ⟨hd.T, hd.C, hd.I, hd.D, ⟨hd.P.1, hd.P.2.1, hd.P.2.2.1, fun c hc => ⟨(hd.P.2.2.2 c hc).1, fun m hm => ?_⟩⟩, ⟨hd.R.1, fun q' hq' => ⟨(hd.R.2 q' hq').1, ?_⟩⟩, ⟨hd.Z.1, fun q' h1 h2 => ⟨(hd.Z.2.1 q' h1 h2).1, ?_⟩, hd.Z.2.2⟩⟩
  · rw [show (mset (mset (mset (mset μ 14 q n b) 13 q 2 (nI (n + 1))) 53 0 (4 * rq q + n) b) 52 0 (rq q) (nI (n + 1))) 48 = μ 48 from rfl, (hd.P.2.2.2 c hc).2 m hm]
    by_cases e : 5 * c + 1 + m = q
    · subst e
      show _ = mset (mset μ 14 _ n b) 13 (5 * c + 1 + m) 2 (nI (n + 1)) 13 (5 * c + 1 + m) 3
      rw [mset_j (by decide), mset_f (by decide)]
    · show _ = mset (mset μ 14 q n b) 13 q 2 (nI (n + 1)) 13 (5 * c + 1 + m) 3
      rw [mset_i e, mset_f (by decide)]
  · have hl := (hd.R.2 q' hq').2
    by_cases e : q' = q
    · subst e
      obtain ⟨N, h0, h1, h2, h3⟩ := hl
      have : N = n := by rw [← hn]; unfold xnl; rw [h1]; exact (cl_nI (by omega)).symm
      subst this
      refine ⟨N + 1, by omega, mset_at _ _ _ _ _, mset_at _ _ _ _ _, fun k hk => ?_⟩
      show inR (mset μ 14 q' N b 14 q' k) ni ∧ upd (μ 53 0) (4 * rq q' + N) b (4 * rq q' + k) = mset μ 14 q' N b 14 q' k
      rw [mset_same]
      by_cases ek : k = N
      · subst ek
        simp only [upd, if_true]
        exact ⟨hb, trivial⟩
      · simp only [upd, if_neg ek, if_neg (show ¬ 4 * rq q' + k = 4 * rq q' + N by omega)]
        exact h3 k (by omega)
    · have hr : rq q' ≠ rq q := fun z => e (rq_inj (by omega) (by omega) z)
      refine hl.cg ?_ ?_ ?_ (fun k hk => ?_)
      · show mset (mset μ 14 q n b) 13 q 2 (nI (n + 1)) 13 q' 2 = _
        rw [mset_i e, mset_f (by decide)]
      · show mset μ 14 q n b 14 q' = _
        rw [mset_i e]
      · show upd (μ 52 0) (rq q) (nI (n + 1)) (rq q') = _
        simp only [upd, if_neg hr]
      · show upd (μ 53 0) (4 * rq q + n) b (4 * rq q' + k) = _
        simp only [upd, if_neg (show ¬ 4 * rq q' + k = 4 * rq q + n by omega)]
  · show upd (μ 52 0) (rq q) (nI (n + 1)) (rq q') = 0
    have hr : rq q' ≠ rq q := fun z => by have := rq_inj (by omega) (by omega) z; omega
    simp only [upd, if_neg hr]
    exact (hd.Z.2.1 q' h1 h2).2

set_option maxHeartbeats 4000000 in
theorem rel_list {a y b : Int32} {μ μ1 μ2 : Mem} {r1 r2 : Option XV} {nt nc ni nd np : Nat} (h : REL μ) (hd : RELd μ nt nc ni nd np) (hx : (fun r μ' => (¬ μ 0 0 7 = 0 ∧ r = some (.inl (-2)) ∧ μ' = μ) ∨ (μ 0 0 7 = 0 ∧ ¬ ((inR a (xnp μ) ∧ ¬ y < -1 ∧ ¬ 4 ≤ y) ∧ inR b (xni μ)) ∧ r = some (.inl (-3)) ∧ μ' = μ) ∨ (μ 0 0 7 = 0 ∧ ∃ j k, j < xnp μ ∧ k < 5 ∧ a = nI j ∧ y = nI k - 1 ∧ inR b (xni μ) ∧ ((xnl μ (5 * j + k) = 4 ∧ r = some (.inl (-5)) ∧ μ' = μ) ∨ (xnl μ (5 * j + k) < 4 ∧ r = some (.inl 0) ∧ μ' = mset (mset μ 14 (5 * j + k) (xnl μ (5 * j + k)) b) 13 (5 * j + k) 2 (nI (xnl μ (5 * j + k) + 1)))))) r1 μ1) (hm : (fun (μ : Mem) (n : Nat) (k : Nat) => (fun r μ' => (¬ μ 24 0 0 = 0 ∧ r = some (.inl (-2)) ∧ μ' = μ) ∨ (μ 24 0 0 = 0 ∧ ¬ ((inR a k ∧ ¬ y < -1 ∧ ¬ 4 ≤ y) ∧ inR b n) ∧ r = some (.inl (-3)) ∧ μ' = μ) ∨ (μ 24 0 0 = 0 ∧ ∃ j u, j < k ∧ u < 5 ∧ a = nI j ∧ y = nI u - 1 ∧ inR b n ∧ ((mnl μ (rq (5 * j + u)) = 4 ∧ r = some (.inl (-5)) ∧ μ' = μ) ∨ (mnl μ (rq (5 * j + u)) < 4 ∧ r = some (.inl 0) ∧ μ' = mset (mset μ 53 0 (4 * (rq (5 * j + u)) + mnl μ (rq (5 * j + u))) b) 52 0 (rq (5 * j + u)) (nI (mnl μ (rq (5 * j + u)) + 1))))))) μ1 ni np r2 μ2) : ∃ x, r1 = some (.inl x) ∧ r2 = some (.inl x) ∧ REL μ2 := by
  have hdep := h.2.2.1
  simp only [hd.vT, hd.vI, hd.vD, hd.vP, hd.vC] at hx
  rcases hx with ⟨c0, rfl, rfl⟩ | ⟨c0, cB, rfl, rfl⟩ | ⟨c0, j, k, hj, hk, ea, ey, hb, hc⟩
  · rcases hm with ⟨d0, rfl, rfl⟩ | ⟨d0, dB, rfl, rfl⟩ | ⟨d0, -⟩
    · exact ⟨_, rfl, rfl, h⟩
    · exact absurd (hdep.symm.trans d0) c0
    · exact absurd (hdep.symm.trans d0) c0
  · rcases hm with ⟨d0, rfl, rfl⟩ | ⟨d0, dB, rfl, rfl⟩ | ⟨d0, j2, k2, hj2, hk2, ea2, ey2, hb2, hdd⟩
    · exact absurd (hdep.trans c0) d0
    · exact ⟨_, rfl, rfl, h⟩
    · exact absurd ⟨⟨⟨j2, hj2, ea2⟩, five_of hk2 ey2⟩, hb2⟩ cB
  · rcases hc with ⟨cN, rfl, rfl⟩ | ⟨cN, rfl, rfl⟩
    all_goals rcases hm with ⟨d0, rfl, rfl⟩ | ⟨d0, dB, rfl, rfl⟩ | ⟨d0, j2, k2, hj2, hk2, ea2, ey2, hb2, hdd⟩
    · exact absurd (hdep.trans c0) d0
    · exact absurd ⟨⟨⟨j, hj, ea⟩, five_of hk ey⟩, hb⟩ dB
    · have hnp := hd.P.1
      have : j2 = j := (nI_eq (by omega) (by omega)).mp (ea2.symm.trans ea)
      subst this
      have : k2 = k := five_inj hk2 hk (ey2.symm.trans ey)
      subst this
      have hnb := (hd.R.2 (5 * j2 + k2) (by omega)).2.nb
      rw [hnb] at hdd
      rcases hdd with ⟨dN, rfl, rfl⟩ | ⟨dN, rfl, rfl⟩
      · exact ⟨_, rfl, rfl, h⟩
      · exact absurd cN (by omega)
    · exact absurd (hdep.trans c0) d0
    · exact absurd ⟨⟨⟨j, hj, ea⟩, five_of hk ey⟩, hb⟩ dB
    · have hnp := hd.P.1
      have : j2 = j := (nI_eq (by omega) (by omega)).mp (ea2.symm.trans ea)
      subst this
      have : k2 = k := five_inj hk2 hk (ey2.symm.trans ey)
      subst this
      have hnb := (hd.R.2 (5 * j2 + k2) (by omega)).2.nb
      have hm2 : mnl (mset (mset μ 14 (5 * j2 + k2) (xnl μ (5 * j2 + k2)) b) 13 (5 * j2 + k2) 2 (nI (xnl μ (5 * j2 + k2) + 1))) (rq (5 * j2 + k2)) = mnl μ (rq (5 * j2 + k2)) := rfl
      try rw [hm2] at hdd
      rw [hnb] at hdd
      rcases hdd with ⟨dN, rfl, rfl⟩ | ⟨dN, rfl, rfl⟩
      · exact absurd cN (by omega)
      · exact ⟨_, rfl, rfl, ⟨nt, nc, ni, nd, np, hd.lst (by omega) rfl cN hb⟩, h.2.1, hdep, fun z => absurd c0 z⟩

set_option maxHeartbeats 4000000 in
theorem rel_flags {a y b : Int32} {μ μ1 μ2 : Mem} {r1 r2 : Option XV} {nt nc ni nd np : Nat} (h : REL μ) (hd : RELd μ nt nc ni nd np) (hx : (fun r μ' => (¬ μ 0 0 7 = 0 ∧ r = some (.inl (-2)) ∧ μ' = μ) ∨ (μ 0 0 7 = 0 ∧ ¬ (inR a (xnp μ) ∧ inR y 4) ∧ r = some (.inl (-3)) ∧ μ' = μ) ∨ (μ 0 0 7 = 0 ∧ (inR a (xnp μ) ∧ inR y 4) ∧ ¬ inR b 8 ∧ r = some (.inl (-4)) ∧ μ' = μ) ∨ (μ 0 0 7 = 0 ∧ ∃ j k, j < xnp μ ∧ k < 4 ∧ a = nI j ∧ y = nI k ∧ inR b 8 ∧ r = some (.inl 0) ∧ μ' = mset μ 13 (5 * j + 1 + k) 3 b)) r1 μ1) (hm : (fun (μ : Mem) (k : Nat) => (fun r μ' => (¬ μ 24 0 0 = 0 ∧ r = some (.inl (-2)) ∧ μ' = μ) ∨ (μ 24 0 0 = 0 ∧ ¬ (inR a k ∧ inR y 4) ∧ r = some (.inl (-3)) ∧ μ' = μ) ∨ (μ 24 0 0 = 0 ∧ (inR a k ∧ inR y 4) ∧ ¬ inR b 8 ∧ r = some (.inl (-4)) ∧ μ' = μ) ∨ (μ 24 0 0 = 0 ∧ ∃ j u, j < k ∧ u < 4 ∧ a = nI j ∧ y = nI u ∧ inR b 8 ∧ r = some (.inl 0) ∧ μ' = mset μ 48 0 (4 * j + u) b))) μ1 np r2 μ2) : ∃ x, r1 = some (.inl x) ∧ r2 = some (.inl x) ∧ REL μ2 := by
  have hdep := h.2.2.1
  simp only [hd.vT, hd.vI, hd.vD, hd.vP, hd.vC] at hx
  rcases hx with ⟨c0, rfl, rfl⟩ | ⟨c0, cB, rfl, rfl⟩ | ⟨c0, cB, cF, rfl, rfl⟩ | ⟨c0, j, k, hj, hk, ea, ey, hb, rfl, rfl⟩
  · rcases hm with ⟨d0, rfl, rfl⟩ | ⟨d0, dB, rfl, rfl⟩ | ⟨d0, dB, dF, rfl, rfl⟩ | ⟨d0, -⟩
    · exact ⟨_, rfl, rfl, h⟩
    · exact absurd (hdep.symm.trans d0) c0
    · exact absurd (hdep.symm.trans d0) c0
    · exact absurd (hdep.symm.trans d0) c0
  · rcases hm with ⟨d0, rfl, rfl⟩ | ⟨d0, dB, rfl, rfl⟩ | ⟨d0, dB, dF, rfl, rfl⟩ | ⟨d0, j2, k2, hj2, hk2, ea2, ey2, hb2, rfl, rfl⟩
    · exact absurd (hdep.trans c0) d0
    · exact ⟨_, rfl, rfl, h⟩
    · exact absurd dB cB
    · exact absurd ⟨⟨j2, hj2, ea2⟩, ⟨k2, hk2, ey2⟩⟩ cB
  · rcases hm with ⟨d0, rfl, rfl⟩ | ⟨d0, dB, rfl, rfl⟩ | ⟨d0, dB, dF, rfl, rfl⟩ | ⟨d0, j2, k2, hj2, hk2, ea2, ey2, hb2, rfl, rfl⟩
    · exact absurd (hdep.trans c0) d0
    · exact absurd cB dB
    · exact ⟨_, rfl, rfl, h⟩
    · exact absurd hb2 cF
  · rcases hm with ⟨d0, rfl, rfl⟩ | ⟨d0, dB, rfl, rfl⟩ | ⟨d0, dB, dF, rfl, rfl⟩ | ⟨d0, j2, k2, hj2, hk2, ea2, ey2, hb2, rfl, rfl⟩
    · exact absurd (hdep.trans c0) d0
    · exact absurd ⟨⟨j, hj, ea⟩, ⟨k, hk, ey⟩⟩ dB
    · exact absurd hb dF
    · have hnp := hd.P.1
      have : j2 = j := (nI_eq (by omega) (by omega)).mp (ea2.symm.trans ea)
      subst this
      have : k2 = k := (nI_eq (by omega) (by omega)).mp (ey2.symm.trans ey)
      subst this
      refine ⟨_, rfl, rfl, ⟨nt, nc, ni, nd, np, hd.T, hd.C, hd.I, hd.D, ⟨hd.P.1, hd.P.2.1, hd.P.2.2.1, fun c hc => ⟨(hd.P.2.2.2 c hc).1, fun m hm => ?_⟩⟩, ⟨hd.R.1, fun q' hq' => ⟨(hd.R.2 q' hq').1, (hd.R.2 q' hq').2.cg ?_ rfl rfl (fun _ _ => rfl)⟩⟩, ⟨hd.Z.1, hd.Z.2.1, fun i h1 h2 => ?_⟩⟩, h.2.1, hdep, fun z => absurd c0 z⟩
      · show upd (μ 48 0) (4 * j2 + k2) b (4 * c + m) = mset μ 13 (5 * j2 + 1 + k2) 3 b 13 (5 * c + 1 + m) 3
        by_cases e : c = j2 ∧ m = k2
        · rw [e.1, e.2, mset_at]
          simp only [upd, if_true]
        · rw [mset_i (by omega)]
          simp only [upd, if_neg (show ¬ 4 * c + m = 4 * j2 + k2 by omega)]
          exact (hd.P.2.2.2 c hc).2 m hm
      · show mset μ 13 (5 * j2 + 1 + k2) 3 b 13 q' 2 = _
        by_cases e : q' = 5 * j2 + 1 + k2
        · rw [e, mset_j (by decide)]
        · rw [mset_i e]
      · show upd (μ 48 0) (4 * j2 + k2) b i = 0
        simp only [upd, if_neg (show ¬ i = 4 * j2 + k2 by omega)]
        exact hd.Z.2.2 i h1 h2
