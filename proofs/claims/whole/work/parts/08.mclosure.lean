/-! PURE: the reference's closure, a list of pairs without a pair twice -/
theorem nodup_len {α : Type} [DecidableEq α] : ∀ {l c : List α}, l.Nodup → (∀ x, x ∈ l → x ∈ c) → l.length ≤ c.length
  | [], _, _, _ => Nat.zero_le _
  | a :: l, c, hn, hs => by
    have ha : a ∈ c := hs a List.mem_cons_self
    have hnd := List.nodup_cons.mp hn
    have ih := nodup_len (l := l) (c := c.erase a) hnd.2 (fun x hx => (List.mem_erase_of_ne (fun e : x = a => hnd.1 (by rw [← e]; exact hx))).mpr (hs x (List.mem_cons_of_mem _ hx)))
    have hl := List.length_erase_of_mem ha
    have hp : 0 < c.length := List.length_pos_of_mem ha
    simp only [List.length_cons]
    omega
abbrev PL : Type := List (Nat × Int32)
def mAdd (t : Nat) (v : Int32) (l : PL) : PL := if (t, v) ∈ l then l else l ++ [(t, v)]
theorem mAdd_mem {t : Nat} {v : Int32} {l : PL} : (t, v) ∈ mAdd t v l := by
  unfold mAdd
  split
  · assumption
  · simp
theorem mAdd_keep {t : Nat} {v : Int32} {l : PL} {q : Nat × Int32} (h : q ∈ l) : q ∈ mAdd t v l := by
  unfold mAdd
  split
  · exact h
  · exact List.mem_append_left _ h
theorem mAdd_inv {t : Nat} {v : Int32} {l : PL} {q : Nat × Int32} (h : q ∈ mAdd t v l) : q ∈ l ∨ q = (t, v) := by
  unfold mAdd at h
  split at h
  · exact Or.inl h
  · rcases List.mem_append.mp h with h | h
    · exact Or.inl h
    · exact Or.inr (List.mem_singleton.mp h)
theorem mAdd_nodup {t : Nat} {v : Int32} {l : PL} (h : l.Nodup) : (mAdd t v l).Nodup := by
  unfold mAdd
  split
  · exact h
  · rename_i hn
    refine List.nodup_append.mpr ⟨h, by simp, fun a ha b hb e => ?_⟩
    rw [List.mem_singleton.mp hb] at e
    exact hn (e ▸ ha)
theorem mAdd_at {t : Nat} {v : Int32} {l : PL} {k : Nat} {q : Nat × Int32} (h : l[k]? = some q) : (mAdd t v l)[k]? = some q := by
  unfold mAdd
  split
  · exact h
  · rw [List.getElem?_append_left ((List.getElem?_eq_some_iff.mp h).1)]
    exact h
theorem mAdd_len {t : Nat} {v : Int32} {l : PL} : l.length ≤ (mAdd t v l).length := by
  unfold mAdd
  split
  · exact Nat.le_refl _
  · simp
section MCL
variable (nb : Nat) (bt : Nat → Nat) (bv : Nat → Int32) (nc : Nat) (ca ct : Nat → Nat) (cw : Nat → Int32)
def mCand : PL := (List.range nb).map (fun k => (bt k, bv k)) ++ (List.range nc).map (fun k => (ct k, cw k))
theorem mCand_len : (mCand nb bt bv nc ct cw).length = nb + nc := by simp [mCand]
theorem mCand_b {k : Nat} (h : k < nb) : (bt k, bv k) ∈ mCand nb bt bv nc ct cw := List.mem_append_left _ (List.mem_map.mpr ⟨k, List.mem_range.mpr h, rfl⟩)
theorem mCand_c {k : Nat} (h : k < nc) : (ct k, cw k) ∈ mCand nb bt bv nc ct cw := List.mem_append_right _ (List.mem_map.mpr ⟨k, List.mem_range.mpr h, rfl⟩)
/-- a list in the making -/
def mSnd (l : PL) : Prop := l.Nodup ∧ (∀ q, q ∈ l → clPair nb bt bv nc ca ct cw q.1 q.2) ∧ ∀ q, q ∈ l → q ∈ mCand nb bt bv nc ct cw
theorem mSnd.len {l : PL} (h : mSnd nb bt bv nc ca ct cw l) : l.length ≤ nb + nc := by
  rw [← mCand_len nb bt bv nc ct cw]
  exact nodup_len h.1 h.2.2
theorem mSnd.add {l : PL} {t : Nat} {v : Int32} (h : mSnd nb bt bv nc ca ct cw l) (hp : clPair nb bt bv nc ca ct cw t v) (hc : (t, v) ∈ mCand nb bt bv nc ct cw) : mSnd nb bt bv nc ca ct cw (mAdd t v l) := by
  refine ⟨mAdd_nodup h.1, fun q hq => ?_, fun q hq => ?_⟩
  · rcases mAdd_inv hq with hq | rfl
    · exact h.2.1 q hq
    · exact hp
  · rcases mAdd_inv hq with hq | rfl
    · exact h.2.2 q hq
    · exact hc
/-- there is room for one more, or it is there -/
theorem mSnd.room {l : PL} {t : Nat} {v : Int32} (h : mSnd nb bt bv nc ca ct cw l) (hp : clPair nb bt bv nc ca ct cw t v) (hc : (t, v) ∈ mCand nb bt bv nc ct cw) (hn : ¬ (t, v) ∈ l) : l.length + 1 ≤ nb + nc := by
  have h1 := (h.add nb bt bv nc ca ct cw hp hc).len
  unfold mAdd at h1
  rw [if_neg hn] at h1
  simpa using h1
/-- the list, done -/
def mOK (l : PL) : Prop := l.Nodup ∧ ∀ t v, (t, v) ∈ l ↔ clPair nb bt bv nc ca ct cw t v
theorem mOK.of {l : PL} (h : mSnd nb bt bv nc ca ct cw l) (hb : ∀ k, k < nb → (bt k, bv k) ∈ l) (hc : ∀ q, q ∈ l → ∀ j, j < nc → ca j = q.1 → (ct j, cw j) ∈ l) : mOK nb bt bv nc ca ct cw l := by
  have hr : ∀ t, clReach nb bt nc ca ct t → ∃ v, (t, v) ∈ l := fun t ht => ht.ind (P := fun t => ∃ v, (t, v) ∈ l) nb bt nc ca ct (fun k hk => ⟨_, hb k hk⟩) (fun k hk ⟨v, hv⟩ => ⟨_, hc _ hv k hk rfl⟩)
  refine ⟨h.1, fun t v => ⟨fun hq => h.2.1 _ hq, fun hp => ?_⟩⟩
  rcases hp with ⟨k, hk, rfl, rfl⟩ | ⟨k, hk, hq, rfl, rfl⟩
  · exact hb k hk
  · obtain ⟨w, hw⟩ := hr _ hq
    exact hc _ hw k hk rfl
/-- two of one type -/
theorem mOK.conf {l : PL} (h : mOK nb bt bv nc ca ct cw l) : (∃ j k : Nat, j < k ∧ ∃ p q : Nat × Int32, l[j]? = some p ∧ l[k]? = some q ∧ p.1 = q.1) ↔ clConf nb bt bv nc ca ct cw := by
  constructor
  · rintro ⟨j, k, hjk, ⟨t, v⟩, ⟨t', v'⟩, hp, hq, rfl⟩
    refine ⟨t, v, v', (h.2 _ _).mp (List.mem_of_getElem? hp), (h.2 _ _).mp (List.mem_of_getElem? hq), fun e => ?_⟩
    subst e
    obtain ⟨h1, e1⟩ := List.getElem?_eq_some_iff.mp hp
    obtain ⟨h2, e2⟩ := List.getElem?_eq_some_iff.mp hq
    have := (List.nodup_iff_pairwise_ne.mp h.1)
    have h3 := List.pairwise_iff_getElem.mp this j k h1 h2 hjk
    exact h3 (e1.trans e2.symm)
  · rintro ⟨t, v, v', h1, h2, hne⟩
    obtain ⟨j, hj⟩ := List.getElem?_of_mem ((h.2 _ _).mpr h1)
    obtain ⟨k, hk⟩ := List.getElem?_of_mem ((h.2 _ _).mpr h2)
    have hjk : j ≠ k := fun e => by
      subst e
      rw [hj] at hk
      cases hk
      exact hne rfl
    rcases Nat.lt_or_gt_of_ne hjk with h3 | h3
    · exact ⟨j, k, h3, _, _, hj, hk, rfl⟩
    · exact ⟨k, j, h3, _, _, hk, hj, rfl⟩
end MCL
