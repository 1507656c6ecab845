theorem NWm_tbl : ∀ q ∈ NWm, Cond.methodLinkNest q.1 q.2.1 q.2.2.1 q.2.2.2 ∈ lw_tbl := List.forall_mem_cons.mpr ⟨(List.mem_append_right _ (List.mem_of_getElem? (i := 22) (by decide +kernel))), List.forall_mem_cons.mpr ⟨(List.mem_append_right _ (List.mem_of_getElem? (i := 68) (by decide +kernel))), List.forall_mem_cons.mpr ⟨(List.mem_append_right _ (List.mem_of_getElem? (i := 93) (by decide +kernel))), List.forall_mem_cons.mpr ⟨(List.mem_append_right _ (List.mem_of_getElem? (i := 121) (by decide +kernel))), List.forall_mem_cons.mpr ⟨(List.mem_append_right _ (List.mem_of_getElem? (i := 159) (by decide +kernel))), List.forall_mem_cons.mpr ⟨(List.mem_append_right _ (List.mem_of_getElem? (i := 177) (by decide +kernel))), List.forall_mem_cons.mpr ⟨(List.mem_append_right _ (List.mem_of_getElem? (i := 198) (by decide +kernel))), fun _ h => absurd h List.not_mem_nil⟩⟩⟩⟩⟩⟩⟩
theorem NWa_tbl : ∀ C ∈ NWa, Cond.arrayOver (.object C) ∈ lw_tbl := List.forall_mem_cons.mpr ⟨(List.mem_append_right _ (List.mem_of_getElem? (i := 66) (by decide +kernel))), List.forall_mem_cons.mpr ⟨(List.mem_append_right _ (List.mem_of_getElem? (i := 91) (by decide +kernel))), List.forall_mem_cons.mpr ⟨(List.mem_append_right _ (List.mem_of_getElem? (i := 113) (by decide +kernel))), List.forall_mem_cons.mpr ⟨(List.mem_append_right _ (List.mem_of_getElem? (i := 144) (by decide +kernel))), fun _ h => absurd h List.not_mem_nil⟩⟩⟩⟩
theorem nj_toX {G : XG} {B : Nat} {A : Nat → Prop} {nL : Nat} {p : Program} {l : Launch} {e : Env} {R : Room} {s : State} {m : MethodId} {args : Array Value} {below : List Frame} {meth : Method} {c : Code} {cs sl : Nat} {Q : State → Prop} {pc : Nat} {L : List (Option XV)} {n : Nat} (hG : GA G B) (hn : n = 193) (hol : okl L) (kk : XJ G A nL p l e R s m args below meth c cs sl Q pc L [] mu0) : NJ G B 0 A nL p l e R s m args below meth c cs sl Q pc L [] n [] := by
  intro ls H locs hl hN hS
  refine kk ls H locs (fun v hv => by cases hv) hol hl (fun f i hi => ?_) hS
  have h1 := hN.2 (ord f i) (Nat.zero_le _) (by rw [hn]; exact ord_lt f (xcn_lt hi) i hi)
  have e : nov G [] (ord f i) = xc G mu0 f i := FC_at hi
  rw [e] at h1
  rw [hG f i hi]
  exact h1

set_option maxRecDepth 100000 in
set_option maxHeartbeats 4000000 in
/-- from the entry, for every script of at most 2560 ints, the law comes to its end with true -/
theorem whole_start {p : Program} {e : Env} {s : State} {m : MethodId} {below : List Frame} {meth : Method} {c : Code} (l : Launch) {b L : Nat} {xs : Nat → Int32} (hL : L ≤ 2560) (C0 : lw_At p s m meth c b L xs) : W p l e room_1 s m #[Value.ref b] below meth c s.heap [] 0 0 (lw_Z below #[Value.ref b] s) (entryFrame m ([Value.ref b] : List Value).toArray 4) := by
  obtain ⟨hx, hcode, hr, hml, hown, hts, hX, hbl, hlk, hgv⟩ := C0
  have hWA : ∀ w ∈ WA, w.before #[Value.ref b] s = true := fun w hw => hts w (WA_tbl hw)
  have hcls : ∀ ci : Nat, ∃ q : ClassId × (Nat → Nat), ∀ r, vwCl[ci]? = some r → u_Kn s r.1 r.2.1 r.2.2 q.1 q.2 := by
    intro ci
    rcases ci with _ | _ | _ | _ | _ | _ | _ | _ | _ | _ | _ | ci
    · obtain ⟨cC, iS, h⟩ := u_known (n := 4) hWA inX0 (hWA _ (wa_t 21 (by decide +kernel) rfl))
      exact ⟨(cC, iS), fun r hr => by cases hr; exact h⟩
    · obtain ⟨cC, iS, h⟩ := u_known (n := 3) hWA inX1 (hWA _ (wa_t 27 (by decide +kernel) rfl))
      exact ⟨(cC, iS), fun r hr => by cases hr; exact h⟩
    · obtain ⟨cC, iS, h⟩ := u_known (n := 3) hWA inX2 (hWA _ (wa_t 176 (by decide +kernel) rfl))
      exact ⟨(cC, iS), fun r hr => by cases hr; exact h⟩
    · obtain ⟨cC, iS, h⟩ := u_known (n := 3) hWA inX3 (hWA _ (wa_t 158 (by decide +kernel) rfl))
      exact ⟨(cC, iS), fun r hr => by cases hr; exact h⟩
    · obtain ⟨cC, iS, h⟩ := u_known (n := 3) hWA inX4 (hWA _ (wa_t 114 (by decide +kernel) rfl))
      exact ⟨(cC, iS), fun r hr => by cases hr; exact h⟩
    · obtain ⟨cC, iS, h⟩ := u_known (n := 4) hWA inX5 (hWA _ (wa_t 92 (by decide +kernel) rfl))
      exact ⟨(cC, iS), fun r hr => by cases hr; exact h⟩
    · obtain ⟨cC, iS, h⟩ := u_known (n := 4) hWA inX6 (hWA _ (wa_t 67 (by decide +kernel) rfl))
      exact ⟨(cC, iS), fun r hr => by cases hr; exact h⟩
    · obtain ⟨cC, iS, h⟩ := u_known (n := 7) hWA inX7 (hWA _ (wa_t 197 (by decide +kernel) rfl))
      exact ⟨(cC, iS), fun r hr => by cases hr; exact h⟩
    · obtain ⟨cC, iS, h⟩ := u_known (n := 4) hWA inX8 (hWA _ (wa_t 120 (by decide +kernel) rfl))
      exact ⟨(cC, iS), fun r hr => by cases hr; exact h⟩
    · obtain ⟨cC, iS, h⟩ := u_known (n := 12) hWA inX9 (hWA _ (wa_t 13 (by decide +kernel) rfl))
      exact ⟨(cC, iS), fun r hr => by cases hr; exact h⟩
    · obtain ⟨cC, iS, h⟩ := u_known (n := 42) hWA inX10 (hWA _ (wa_t 530 (by decide +kernel) rfl))
      exact ⟨(cC, iS), fun r hr => by cases hr; exact h⟩
    · exact ⟨(0, fun _ => 0), fun r h => by
        rw [List.getElem?_eq_none (by show 11 ≤ _; omega)] at h
        cases h⟩
  obtain ⟨F, hF⟩ := Classical.skolem.mp hcls
  have hty : ∀ k : Nat, ∃ cA : ClassId, ∀ ty, ([.int, .boolean, .object "BoundChains$Interceptor", .object "BoundChains$Decorator", .object "BoundChains$Component", .object "BoundChains$Place"] : List FieldType)[k]? = some ty → ArrOfT s cA ty ∧ va_RA s cA ty := by
    intro k
    rcases k with _ | _ | _ | _ | _ | _ | k
    · obtain ⟨cA, kA, comp, f1, f2, f3⟩ := Cond.arrayClass_spec (hWA _ WA_int)
      exact ⟨cA, fun ty e => by cases e; exact ⟨fun N z => ⟨(fun k h => by cases h), kA, f2, comp, f3⟩, f1⟩⟩
    · obtain ⟨cA, kA, comp, f1, f2, f3⟩ := Cond.arrayClass_spec (hWA _ WA_bool)
      exact ⟨cA, fun ty e => by cases e; exact ⟨fun N z => ⟨(fun k h => by cases h), kA, f2, comp, f3⟩, f1⟩⟩
    · obtain ⟨comp, cA, kA, h1, h2, h3, h4, h5⟩ := Cond.arrayOver_spec (n := "BoundChains$Interceptor") (hts _ (List.mem_append_right _ (List.mem_of_getElem? (i := 66) (by decide +kernel))))
      exact ⟨cA, fun ty e => by cases e; exact ⟨fun N z => ⟨(fun k h => by cases h), kA, h3, comp, h4⟩, kA, comp, h3, h4, h1, h5⟩⟩
    · obtain ⟨comp, cA, kA, h1, h2, h3, h4, h5⟩ := Cond.arrayOver_spec (n := "BoundChains$Decorator") (hts _ (List.mem_append_right _ (List.mem_of_getElem? (i := 91) (by decide +kernel))))
      exact ⟨cA, fun ty e => by cases e; exact ⟨fun N z => ⟨(fun k h => by cases h), kA, h3, comp, h4⟩, kA, comp, h3, h4, h1, h5⟩⟩
    · obtain ⟨comp, cA, kA, h1, h2, h3, h4, h5⟩ := Cond.arrayOver_spec (n := "BoundChains$Component") (hts _ (List.mem_append_right _ (List.mem_of_getElem? (i := 113) (by decide +kernel))))
      exact ⟨cA, fun ty e => by cases e; exact ⟨fun N z => ⟨(fun k h => by cases h), kA, h3, comp, h4⟩, kA, comp, h3, h4, h1, h5⟩⟩
    · obtain ⟨comp, cA, kA, h1, h2, h3, h4, h5⟩ := Cond.arrayOver_spec (n := "BoundChains$Place") (hts _ (List.mem_append_right _ (List.mem_of_getElem? (i := 144) (by decide +kernel))))
      exact ⟨cA, fun ty e => by cases e; exact ⟨fun N z => ⟨(fun k h => by cases h), kA, h3, comp, h4⟩, kA, comp, h3, h4, h1, h5⟩⟩
    · exact ⟨0, fun ty h => by
        rw [List.getElem?_eq_none (by show 6 ≤ _; omega)] at h
        cases h⟩
  obtain ⟨cAs, hcA⟩ := Classical.skolem.mp hty
  obtain ⟨G, hGe⟩ : ∃ G : XG, G = (fun c => (F c).1, fun c => (F c).2, fun f i => if f = 99 then b else s.heap.size + ord f i, cAs) := ⟨_, rfl⟩
  have hb99 : G.2.2.1 99 0 = b := by rw [hGe]; rfl
  have hGA : GA G s.heap.size := fun f i hi => by rw [hGe]; exact if_neg (by have := xcn_lt hi; omega)
  have hI : XI G := fun f i f' i' hi hi' h => by
    rw [hGA f i hi, hGA f' i' hi'] at h
    have e1 : ord f i = ord f' i' := by omega
    have e2 := (inv_ord f (xcn_lt hi) i hi).symm.trans ((congrArg inv e1).trans (inv_ord f' (xcn_lt hi') i' hi'))
    exact ⟨(Prod.mk.inj e2).1, (Prod.mk.inj e2).2⟩
  have hK : va_K (G.1, G.2.1) vwCl (xty G) s := by
    refine ⟨fun c q hq => by rw [hGe]; exact hF c q hq, fun k q hk => ?_⟩
    have h4 : G.2.2.2 = cAs := by rw [hGe]
    unfold xty at hk
    rw [h4] at hk
    rcases k with _ | _ | _ | _ | _ | _ | k
    · cases hk; exact hcA 0 _ rfl
    · cases hk; exact hcA 1 _ rfl
    · cases hk; exact hcA 2 _ rfl
    · cases hk; exact hcA 3 _ rfl
    · cases hk; exact hcA 4 _ rfl
    · cases hk; exact hcA 5 _ rfl
    · rw [List.getElem?_eq_none (by show 6 ≤ _; omega)] at hk
      cases hk
  have hNW : NW s := ⟨fun q hq => va_Nw.of rfl (hts _ (NWm_tbl q hq)), fun C hC => va_AO.of (hts _ (NWa_tbl C hC))⟩
  have E : NE G s.heap.size 0 (fun z => s.heap.size ≤ z) RL code 4 p s m #[Value.ref b] c := ⟨hx, hcode, hml, hown, hWA, hK, hGA, hNW, fun q h => h⟩
  have EX : XE G (fun z => s.heap.size ≤ z) RL code 4 p s m #[Value.ref b] c := ⟨hx, hcode, hml, hown, hWA, hK, hI, fun q h => by
    obtain ⟨f, i, hi, e1⟩ := h
    show s.heap.size ≤ q
    rw [← e1, hGA f i hi]
    exact Nat.le_add_right _ _⟩
  have ee : ([.inr (99, 0)] : List XV).map (cv G) = [Value.ref b] := by show [Value.ref (G.2.2.1 99 0)] = _; rw [hb99]
  obtain ⟨ls, hls, hlv⟩ := entry_xlv G m [.inr (99, 0)] 4 (by decide)
  rw [ee] at hls
  rw [hls]
  have main : NJ G s.heap.size 0 (fun z => s.heap.size ≤ z) 4 p l e room_1 s m #[Value.ref b] below meth c 0 0 (lw_Z below #[Value.ref b] s) 0 [some (.inr (99, 0)), none, none, none] [] 0 [] := by
    refine nj_new (f := 0) (i := 0) (ci := 9) (fs := [.null, .null, .int 0, .null, .int 0, .null, .int 0, .int 0, .null, .null, .null, .null]) E (wa_t 12 (by decide +kernel) rfl) (wa_t 13 (by decide +kernel) rfl) (wa_t 1 (by decide +kernel) rfl) rfl inX9 okX9 rfl (fun j hj => by rcases (show j = 0 ∨ j = 1 ∨ j = 2 ∨ j = 3 ∨ j = 4 ∨ j = 5 ∨ j = 6 ∨ j = 7 ∨ j = 8 ∨ j = 9 ∨ j = 10 ∨ j = 11 by omega) with rfl | rfl | rfl | rfl | rfl | rfl | rfl | rfl | rfl | rfl | rfl | rfl <;> rfl) (by decide) rfl (Nat.le_of_ble_eq_true rfl) (Nat.le_of_ble_eq_true rfl) d_L_law_0 ?_
    refine nj_dup E d_L_law_3 ?_
    refine nj_call (k := 0) (extra := []) E (n_X9 l G s.heap.size hGA) (wa_t 14 (by decide +kernel) rfl) kc_X9_init (wa_t 1 (by decide +kernel) rfl) (wa_t 15 (by decide +kernel) rfl) rfl (by decide +kernel) rfl (by decide) ⟨Nat.le_of_ble_eq_true rfl, Nat.le_of_ble_eq_true rfl⟩ rfl (by simp) rfl (Nat.zero_le _) (fun o _ _ => rfl) ⟨Nat.le_of_ble_eq_true rfl, Nat.le_of_ble_eq_true rfl⟩ d_L_law_4 ?_
    refine nj_astore_n E d_L_law_7 (by decide) rfl ?_
    refine nj_new (f := 24) (i := 0) (ci := 10) (fs := [.int 0, .int 0, .null, .int 0, .null, .null, .null, .int 0, .null, .null, .null, .int 0, .null, .null, .null, .null, .int 0, .null, .null, .null, .null, .null, .null, .null, .int 0, .null, .null, .int 0, .null, .null, .int 0, .null, .null, .null, .null, .int 0, .null, .int 0, .int 0, .int 0, .int 0, .int 0]) E (wa_t 529 (by decide +kernel) rfl) (wa_t 530 (by decide +kernel) rfl) (wa_t 11 (by decide +kernel) rfl) rfl inX10 okX10 rfl (fun j hj => by rcases (show j = 0 ∨ j = 1 ∨ j = 2 ∨ j = 3 ∨ j = 4 ∨ j = 5 ∨ j = 6 ∨ j = 7 ∨ j = 8 ∨ j = 9 ∨ j = 10 ∨ j = 11 ∨ j = 12 ∨ j = 13 ∨ j = 14 ∨ j = 15 ∨ j = 16 ∨ j = 17 ∨ j = 18 ∨ j = 19 ∨ j = 20 ∨ j = 21 ∨ j = 22 ∨ j = 23 ∨ j = 24 ∨ j = 25 ∨ j = 26 ∨ j = 27 ∨ j = 28 ∨ j = 29 ∨ j = 30 ∨ j = 31 ∨ j = 32 ∨ j = 33 ∨ j = 34 ∨ j = 35 ∨ j = 36 ∨ j = 37 ∨ j = 38 ∨ j = 39 ∨ j = 40 ∨ j = 41 by omega) with rfl | rfl | rfl | rfl | rfl | rfl | rfl | rfl | rfl | rfl | rfl | rfl | rfl | rfl | rfl | rfl | rfl | rfl | rfl | rfl | rfl | rfl | rfl | rfl | rfl | rfl | rfl | rfl | rfl | rfl | rfl | rfl | rfl | rfl | rfl | rfl | rfl | rfl | rfl | rfl | rfl | rfl <;> rfl) (by decide) rfl (Nat.le_of_ble_eq_true rfl) (Nat.le_of_ble_eq_true rfl) d_L_law_8 ?_
    refine nj_dup E d_L_law_11 ?_
    refine nj_call (k := 0) (extra := []) E (n_X10 l G s.heap.size hGA) (wa_t 531 (by decide +kernel) rfl) kc_X10_init (wa_t 11 (by decide +kernel) rfl) (wa_t 532 (by decide +kernel) rfl) rfl (by decide +kernel) rfl (by decide) ⟨Nat.le_of_ble_eq_true rfl, Nat.le_of_ble_eq_true rfl⟩ rfl (by simp) rfl (Nat.zero_le _) (fun o _ _ => rfl) ⟨Nat.le_of_ble_eq_true rfl, Nat.le_of_ble_eq_true rfl⟩ d_L_law_12 ?_
    refine nj_astore_n E d_L_law_15 (by decide) rfl ?_
    refine nj_iconst (v := 0) E d_L_law_16 (by decide) ?_
    refine nj_istore_n E d_L_law_17 (by decide) rfl ?_
    refine nj_widen (k1 := 600000) (k2 := 7302250) (Nat.le_of_ble_eq_true rfl) (Nat.le_of_ble_eq_true rfl) ?_
    refine nj_loc (L' := [some (.inr (99, 0)), some (.inr (0, 0)), some (.inr (24, 0)), some (.inl (nI 0))]) rfl ?_
    refine nj_toX hGA rfl ?_ ?_
    · intro v hv
      simp at hv
      rcases hv with rfl | rfl | rfl | rfl
      · exact Or.inl rfl
      · exact Or.inr (by decide)
      · exact Or.inr (by decide)
      · trivial
    · exact law_loop hI EX hb99 hX hbl hL hr hlk (L - 0) 0 mu0 rfl (by omega) (REL_0 (fun _ _ _ => rfl))
  exact main ls s.heap [] hlv ⟨rfl, fun o _ h => absurd h (Nat.not_lt_zero _)⟩ va_S.rf

set_option maxHeartbeats 4000000 in
theorem lw_walk (l : Launch) (b : Addr) (xs : List Int32) : MetFree l x (headSpec (Jvm.Cond.code x code maxLocals ret :: tables_1) room_1) (lw_P b xs) (fun _ _ _ _ _ => True) lw_Q := by
  refine MetFree.of_bodyS (code := code) (maxLocals := maxLocals) (ret := ret) (by decide) ?_ ?_
  · intro args s m h hn
    obtain ⟨meth, c, h1, h2, h3, h4, h5, h6, -, -⟩ := Cond.code_spec hn (atoms_spec (ws := Jvm.Cond.code x code maxLocals ret :: tables_1) h _ List.mem_cons_self)
    exact ⟨meth, c, h1, h2, h3, h4, h5, h6⟩
  · intro p e s m args below meth c s₁ B hml0 hP _
    obtain ⟨rfl, hx, hbd, hgv⟩ := hP
    obtain ⟨scr, harrAt, hlist, hof, hsmall⟩ := hx
    obtain ⟨hcb, hkn, -, -⟩ := State.arrayAt?_spec harrAt
    have hown : s.vm.findClass R_law = some m.cls := findClass_of_methodNamed B.named
    have hts0 : ∀ c ∈ (Jvm.Cond.code x code maxLocals ret :: tables_1), c.before #[Value.ref b] s = true := atoms_spec (ws := Jvm.Cond.code x code maxLocals ret :: tables_1) B.pre
    have hts : ∀ w ∈ lw_tbl, w.before #[Value.ref b] s = true := k2_hts_sels lw_privs (fun w hw => hts0 w (List.mem_cons_of_mem _ hw)) lw_privs_ok
    have hml : c.maxLocals = 4 := B.maxLocals_eq (hts0 _ List.mem_cons_self)
    have X₀ : Stand p l e room_1 s m #[Value.ref b] below meth c s₁ [] 0 0 := Stand.of_body B
    have hh0 : s₁.heap = s.heap := by rw [B.state]; rfl
    have hsz : scr.slots.size = xs.length := by rw [← Array.length_toList, hlist, List.length_map]
    have hval : ∀ j : Nat, j < xs.length → scr.slots[j]? = some (.int (xs.getD j 0)) := fun j hj => by
      rw [← Array.getElem?_toList, hlist]
      simp [hj]
    have hbl : b < s.heap.size := (Array.getElem?_eq_some_iff.mp hcb).1
    have hX : va_X b xs.length (fun j => xs.getD j 0) s s.heap := ⟨scr, hcb, hof, hkn, hsz, hval⟩
    have K : W p l e room_1 s m #[Value.ref b] below meth c s₁.heap [] 0 0 (lw_Z below #[Value.ref b] s) (entryFrame m ([Value.ref b] : List Value).toArray 4) := by
      rw [hh0]
      exact whole_start l hbd ⟨B.exec, B.bytes, B.returns, hml, hown, hts, hX, hbl, B.notSynchronized, hgv⟩
    obtain ⟨t, a1, o, b1, b2, b3⟩ := K s₁ rfl X₀
    exact ⟨t, o, a1, b1, b2, b3⟩
theorem lw_pre_spec {args : Array Value} {s : State} (h : (Jvm.Cond.and given_1 narrow_1).before args s = true) (hr : rest_1_c.before args s = true) : ∃ (b : Addr) (xs : List Int32), lw_P b xs args s := by
  have hs := flat_of_before _ h
  have hq := flat_of_before _ hr
  have hc : (Cond.count 1).before args s = true := hs _ (by decide +kernel)
  have harr : (Cond.arrayOf (.arg 0) .int).before args s = true := hs _ (by decide +kernel)
  have hle : (Cond.le (.length (.arg 0)) (.int 2560)).before args s = true := hs _ (by decide +kernel)
  have hlen : (Cond.isInt (.length (.arg 0))).before args s = true := hq _ (by decide +kernel)
  have hall : (Cond.all (.arg 0) (.isInt (.elem (.arg 0) (.index 0)))).before args s = true := hq _ (by decide +kernel)
  obtain ⟨b, xs, hb, hx⟩ := State.ints_of_pre rfl harr hlen hall
  have hsm : xs.length < 2 ^ 31 := hx.choose_spec.2.2.2
  have hev : (Term.length (.arg 0)).eval args s none [] s = some (.int xs.length.toInt32) := hx.length_eval hb
  have hv := Cond.le_ints hev (show (Term.int 2560).eval args s none [] s = some (.int 2560) from rfl)
  have hd : xs.length.toInt32 ≤ 2560 := by
    simpa [Cond.before, Cond.holds, hv] using hle
  have hN : xs.length ≤ 2560 := (Int32.ofNat_le_ofNat hsm (by decide)).mp (show Int32.ofNat xs.length ≤ Int32.ofNat 2560 from hd)
  exact ⟨b, xs, Cond.one_arg hc (show args[0]? = some (.ref b) from hb), hx, hN, h⟩
theorem lw_comes (l : Launch) : Comes l x (Jvm.Cond.code x code maxLocals ret :: tables_1) room_1 (fun tb e args s => Calls_1 tb e args s ∧ rest_1 tb e args s ∧ Pre_1 tb e args s)
    (fun _ _ args s o t => lw_Q args s o t) := by
  intro p e ha hc hk s m args below hf hfit hheap happ hpre
  obtain ⟨b, xs, hP⟩ := lw_pre_spec hpre.2.2 hpre.2.1
  obtain ⟨k, o, h1, h2, h3, hQ⟩ := lw_walk l b xs p e ha hc hk s m args below hf ((Spec.applies_iff_loose hf).mp happ).1 hP trivial
  exact ⟨k, o, h1, h2, h3, hQ⟩
theorem lw_frame {s t : State} {o : Outcome} {args : Array Value} (h : Framed s o t [] 600000 7302250) :
    Framed s o t (fieldLocs frame_1_writes args s ++ arrayLocs frame_1_arrays args s ++ staticLocs frame_1_statics s) 600000 7302250 := h
theorem lw_limb (L : Cond) (hL : ∀ (args : Array Value) (s t : State), L.after args s (.returned (some (.int 1))) t = true) :
    ArmFor flags0 classFile x code maxLocals ret World_1 tables_1 room_1 Calls_1 rest_1 Pre_1
      (fun tb e a s o t => postC L tb e a s o t ∧ Framed s o t (fieldLocs frame_1_writes a s ++ arrayLocs frame_1_arrays a s ++ staticLocs frame_1_statics s) 600000 7302250) := by
  intro l _ _ _ p e ha hc hk s m args below hf hfit hheap happ hpre
  obtain ⟨k, o, h1, h2, h3, rfl, hF⟩ := lw_comes l p e ha hc hk s m args below hf hfit hheap happ hpre
  exact ⟨k, _, h1, h2, h3, hL args s _, lw_frame hF⟩
theorem i_vc : Claimed_1_1 ∧ Claimed_1_2 := ⟨lw_limb limb_1_1 (fun args s t => by simp [limb_1_1, Cond.after, Cond.holds, Cond.value]), lw_limb limb_1_2 (fun args s t => Cond.after_iff.mpr (by
  first | (rw [show limb_1_2 = Cond.eq .result (.int 1) from rfl, Cond.eq_ints (x := 1) (y := 1) rfl rfl]; simp; done) | (simp [limb_1_2, Cond.value, Term.eval]; done)))⟩
