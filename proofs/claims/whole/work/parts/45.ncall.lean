/-- the entry's locals -/
theorem entry_xlv (G : XG) (m : MethodId) (as : List XV) (mL : Nat) (hm : as.length ≤ mL) : ∃ ls : Array Slot, entryFrame m (as.map (cv G)).toArray mL = F0 m 0 ls [] ∧ xlv G ls mL (as.map some ++ List.replicate (mL - as.length) none) := by
  rw [entry_eq m (as.map (cv G)) (fun v hv => by obtain ⟨w, -, rfl⟩ := List.mem_map.mp hv; exact cv_cat G w) mL]
  generalize hls : ((as.map (cv G)).map Slot.val ++ List.replicate (mL - (as.map (cv G)).length) Slot.unset).toArray = ls
  have hget : ∀ k : Nat, ls[k]? = ((as.map (cv G)).map Slot.val ++ List.replicate (mL - (as.map (cv G)).length) Slot.unset)[k]? := fun k => by rw [← hls]; simp
  have hcase : ∀ (k : Nat) (x : Slot), ls[k]? = some x → (∃ v, as[k]? = some v ∧ x = .val (cv G v)) ∨ x = .unset := by
    intro k x h
    rw [hget] at h
    by_cases hk : k < as.length
    · rw [List.getElem?_append_left (by simpa using hk)] at h
      simp only [List.getElem?_map] at h
      cases e1 : as[k]? with
      | none => rw [e1] at h; cases h
      | some v => rw [e1] at h; cases h; exact Or.inl ⟨v, rfl, rfl⟩
    · rw [List.getElem?_append_right (by simp; omega)] at h
      exact Or.inr (List.eq_of_mem_replicate (List.mem_of_getElem? h))
  refine ⟨ls, rfl, by rw [← hls]; simp; omega, by simp; omega, ⟨fun i v h h2 => ?_, fun i h => ?_⟩, fun k v h => ?_⟩
  · rcases hcase i _ h with ⟨w, -, hw⟩ | hw
    · cases hw
      rw [cv_cat] at h2
      omega
    · cases hw
  · rcases hcase i _ h with ⟨w, -, hw⟩ | hw <;> cases hw
  · rw [hget]
    by_cases hk : k < as.length
    · rw [List.getElem?_append_left (by simpa using hk)] at h ⊢
      simp only [List.getElem?_map] at h ⊢
      cases e1 : as[k]? with
      | none => rw [e1] at h; cases h
      | some w => rw [e1] at h; simp at h; subst h; rfl
    · rw [List.getElem?_append_right (by simp; omega)] at h
      have := List.eq_of_mem_replicate (List.mem_of_getElem? h)
      cases this
def NMet (l : Launch) (G : XG) (B : Nat) (y : MethodName) (cc : ByteArray) (mL d kc ks f i K : Nat) (extra : List XV) : Prop :=
  Met l y (Cond.code y cc mL none :: WA) ({ frames := d, cells := kc, slots := ks, locals := 40 * d }) (va_Pc ((.inr (f, i) :: extra : List XV).map (cv G)) (fun U => NH G B (ord f i) (ord f i + 1) [(ord f i, dfl f)] U.heap ∧ va_K (G.1, G.2.1) vwCl (xty G) U ∧ NW U)) (va_Qv (fun _ : Unit => True) (fun _ t => NH G B (ord f i) (ord f i + K) [] t.heap) (fun q => B + ord f i ≤ q)) kc ks (fun q => B + ord f i ≤ q)
def nRm (d kc ks : Nat) : Room := { frames := d, cells := kc, slots := ks, locals := 40 * d }
section NCALLS
variable {G : XG} {B lo : Nat} {A : Nat → Prop} {nL : Nat} {p : Program} {l : Launch} {e : Env} {R : Room} {s : State} {m : MethodId} {args : Array Value} {below : List Frame} {meth : Method} {c : Code} {cs sl : Nat} {Q : State → Prop} {pc : Nat} {L : List (Option XV)} {st : List XV} {n : Nat} {ov : List (Nat × va_E)} {own : String} {cc : ByteArray}
theorem nj_behind (E : NE G B lo A own cc nL p s m args c) {y : MethodName} {f i K kc ks : Nat} {extra : List XV} {H : Heap} {locs : List Loc} {ls : Array Slot} {stk : List Value} {Pa : Array Value} (hr : va_Run p l e R s m args below meth c H locs cs sl kc ks (F0 m pc ls stk) (st.map (cv G)) (va_Qv (fun _ : Unit => True) (fun _ t => NH G B (ord f i) (ord f i + K) [] t.heap) (fun q => B + ord f i ≤ q) Pa) (fun q => B + ord f i ≤ q)) (hl : xlv G ls nL L) (hN : NH G B lo (ord f i + 1) ((ord f i, dfl f) :: ov) H) (hS : va_S A s.heap H locs) (hlo : lo ≤ ord f i) (hov : ∀ o, ord f i ≤ o → o < ord f i + K → nov G ov o = FC G o) (kk : NJ G B lo A nL p l e R s m args below meth c (cs + kc) (sl + ks) Q (pc + 3) L st (ord f i + K) ov) : W p l e R s m args below meth c H locs cs sl Q (F0 m pc ls stk) := by
  have hA := E.2.2.2.2.2.2.2.2
  refine va_callv hr hS (fun q _ h => hA q (by have h : B + ord f i ≤ q := h; omega)) (fun q h => hA q (by have h : B + ord f i ≤ q := h; omega)) (fun u t H1 locs1 ht hvm _ hB hz hk hS1 => ?_)
  rw [ht] at hB
  refine kk ls H1 locs1 hl ⟨hB.1, fun o h1 h2 => ?_⟩ hS1
  by_cases h : ord f i ≤ o
  · rw [hov o h h2]
    exact hB.2 o h h2
  · have h3 := hN.2 o h1 (by omega)
    rw [nov_n (show ¬ o = ord f i by omega)] at h3
    exact h3.kept (hk _ (by rw [hN.1]; show B + o < _; omega) (by show ¬ B + ord f i ≤ B + o; omega))
theorem n_pres (E : NE G B lo A own cc nL p s m args c) {f i : Nat} {extra : List XV} {H : Heap} (hN : NH G B lo (ord f i + 1) ((ord f i, dfl f) :: ov) H) (hlo : lo ≤ ord f i) : PreS s H (va_Pc ((.inr (f, i) :: extra : List XV).map (cv G)) (fun U => NH G B (ord f i) (ord f i + 1) [(ord f i, dfl f)] U.heap ∧ va_K (G.1, G.2.1) vwCl (xty G) U ∧ NW U)) ((.inr (f, i) :: extra : List XV).map (cv G)) := by
  obtain ⟨h1, h2, h3, h4, hts, hK, hG, hW, hA⟩ := E
  refine ⟨fun a U g mk q => ?_, fun U hU hWm => ⟨rfl, ⟨by rw [hU]; exact hN.1, fun o a b => ?_⟩, va_K.moved hWm.alike hK, hW.warm hWm⟩⟩
  · obtain ⟨q0, q1, q2, q3⟩ := q
    exact ⟨q0, q1, va_K.moved (u := U) (U := U.calling g mk a) (Vm.Alike.refl U.vm) q2, q3.same rfl⟩
  · have ho : o = ord f i := by omega
    subst ho
    rw [hU, nov_p rfl]
    have := hN.2 (ord f i) hlo (by omega)
    rw [nov_p rfl] at this
    exact this
theorem nj_call (E : NE G B lo A own cc nL p s m args c) {y : MethodName} {cc' : ByteArray} {mL' idx d kc ks f i K k : Nat} {extra : List XV} {stk : List XV} (hM : NMet l G B y cc' mL' d kc ks f i K extra) (hlink : Cond.methodLink own idx y ∈ WA) (hcode : Cond.code y cc' mL' none ∈ WA) (hini : Cond.initialized y.cls ∈ WA) (hinst : Cond.instanceMethod y ∈ WA) (hy : y.name = "<init>") (hd0 : y.cls ≠ "java/lang/invoke/MethodHandle" ∧ y.cls ≠ "java/lang/invoke/VarHandle" ∧ (parseMethodDescriptor y.desc).map (fun d => d.parameters.length) = some k) (hk : extra.length = k) (hmL : mL' ≤ 20) (hR : d + 1 ≤ R.frames ∧ 40 * d + 40 ≤ R.locals) (hst : stk = extra.reverse ++ .inr (f, i) :: st) (hlen : st.length ≤ 8) (hn : n = ord f i + 1) (hlo : lo ≤ ord f i) (hov : ∀ o, ord f i ≤ o → o < ord f i + K → nov G ov o = FC G o) (hcs : cs + kc ≤ R.cells ∧ sl + ks ≤ R.slots) (hd : decode cc pc = .ok (.invokespecial idx, 3)) (kk : NJ G B lo A nL p l e R s m args below meth c (cs + kc) (sl + ks) Q (pc + 3) L st (ord f i + K) ov) : NJ G B lo A nL p l e R s m args below meth c cs sl Q pc L stk n ((ord f i, dfl f) :: ov) := by
  subst hn
  subst hst
  intro ls H locs hl hN hS
  have E0 := E
  obtain ⟨h1, h2, h3, h4, hts, hK, hG, hW, hA⟩ := E
  refine nj_behind (y := y) (extra := extra) E0 (va_runI (b := G.2.2.1 f i) (As := extra.map (cv G)) (rest := st.map (cv G)) (nL := nL) ⟨h1, h2, h3, h4, hts⟩ hM (cwI k hts (WA_code hcode) rfl rfl rfl (hts _ hini) (hts _ hlink) (hts _ hinst) hy hd0 ⟨hR.1, by show 8 + (mL' + 11) + 40 * d ≤ _; omega⟩) (n_pres E0 hN hlo) rfl (by rw [List.length_map]; exact hk) hl.1 (by show List.map (cv G) (extra.reverse ++ .inr (f, i) :: st) = _; rw [List.map_append, List.map_reverse]; rfl) (by have := xcat G st hlen; show 2 * 0 + _ ≤ _; omega) hd hcs) hl hN hS hlo hov kk
theorem nj_callN (E : NE G B lo A own cc nL p s m args c) {y : MethodName} {cc' : ByteArray} {mL' idx d kc ks f i K k : Nat} {host : String} {extra : List XV} {stk : List XV} (hM : NMet l G B y cc' mL' d kc ks f i K extra) (hlink : (own, idx, y, host) ∈ NWm) (hcode : Cond.code y cc' mL' none ∈ WA) (hini : Cond.initialized y.cls ∈ WA) (hinst : Cond.instanceMethod y ∈ WA) (hy : y.name = "<init>") (hd0 : y.cls ≠ "java/lang/invoke/MethodHandle" ∧ y.cls ≠ "java/lang/invoke/VarHandle" ∧ (parseMethodDescriptor y.desc).map (fun d => d.parameters.length) = some k) (hk : extra.length = k) (hmL : mL' ≤ 20) (hR : d + 1 ≤ R.frames ∧ 40 * d + 40 ≤ R.locals) (hst : stk = extra.reverse ++ .inr (f, i) :: st) (hlen : st.length ≤ 8) (hn : n = ord f i + 1) (hlo : lo ≤ ord f i) (hov : ∀ o, ord f i ≤ o → o < ord f i + K → nov G ov o = FC G o) (hcs : cs + kc ≤ R.cells ∧ sl + ks ≤ R.slots) (hd : decode cc pc = .ok (.invokespecial idx, 3)) (kk : NJ G B lo A nL p l e R s m args below meth c (cs + kc) (sl + ks) Q (pc + 3) L st (ord f i + K) ov) : NJ G B lo A nL p l e R s m args below meth c cs sl Q pc L stk n ((ord f i, dfl f) :: ov) := by
  subst hn
  subst hst
  intro ls H locs hl hN hS
  have E0 := E
  obtain ⟨h1, h2, h3, h4, hts, hK, hG, hW, hA⟩ := E
  refine nj_behind (y := y) (extra := extra) E0 (va_runIN (b := G.2.2.1 f i) (As := extra.map (cv G)) (rest := st.map (cv G)) (nL := nL) ⟨h1, h2, h3, h4, hts⟩ hM ⟨va_cnB k hts (WA_code hcode) rfl rfl rfl (hW.1 _ hlink) (hts _ hini) hd0 ⟨hR.1, by show 8 + (mL' + 11) + 40 * d ≤ _; omega⟩, hy, hts _ hinst⟩ (n_pres E0 hN hlo) rfl (by rw [List.length_map]; exact hk) hl.1 (by show List.map (cv G) (extra.reverse ++ .inr (f, i) :: st) = _; rw [List.map_append, List.map_reverse]; rfl) (by have := xcat G st hlen; show 2 * 0 + _ ≤ _; omega) hd hcs) hl hN hS hlo hov kk
theorem nj_vret {f i K kc ks : Nat} (E : NE G B (ord f i) (fun q => B + ord f i ≤ q) own cc nL p s m args c) (hr : meth.sig.returnType = none) (hlk : meth.locks = false) (hn : n = ord f i + K) (hd : decode cc pc = .ok (.return_, 1)) : NJ G B (ord f i) (fun q => B + ord f i ≤ q) nL p l e R s m args below meth c kc ks (MQ below (va_Qv (fun _ : Unit => True) (fun _ t => NH G B (ord f i) (ord f i + K) [] t.heap) (fun q => B + ord f i ≤ q)) args s kc ks (fun q => B + ord f i ≤ q)) pc L [] n [] := by
  subst hn
  exact fun ls H locs hl hN hS => W.vret E.1 E.2.1 hr (fun t ht hW => ⟨⟨(), rfl, trivial, by show NH G B (ord f i) (ord f i + K) [] t.heap; rw [ht]; exact hN⟩, hS.F ht⟩) hS.2.2 hd hlk
theorem nj_met {y : MethodName} {mL d kc ks f i K : Nat} {extra : List XV} (hy : plainName y.cls = true) (hyi : y.name = "<init>") (hG : GA G B) (hm : extra.length + 1 ≤ mL)
    (body : ∀ (p : Program) (e : Env) (s : State) (m : MethodId) (args : Array Value) (below : List Frame) (meth : Method) (c : Code), NE G B (ord f i) (fun q => B + ord f i ≤ q) y.cls cc mL p s m args c → meth.sig.returnType = none → meth.locks = false → meth.name = "<init>" → NJ G B (ord f i) (fun q => B + ord f i ≤ q) mL p l e (nRm d kc ks) s m args below meth c 0 0 (MQ below (va_Qv (fun _ : Unit => True) (fun _ t => NH G B (ord f i) (ord f i + K) [] t.heap) (fun q => B + ord f i ≤ q)) args s kc ks (fun q => B + ord f i ≤ q)) 0 ((.inr (f, i) :: extra).map some ++ List.replicate (mL - (extra.length + 1)) none) [] (ord f i + 1) [(ord f i, dfl f)]) : NMet l G B y cc mL d kc ks f i K extra := by
  refine Met.ofW (cc := cc) (maxL := mL) (ret := none) hy rfl ?_
  intro p e s m args below meth c s₁ B0 hml hv
  obtain ⟨rfl, hN, hK, hW⟩ := hv
  have hts := atoms_spec (ws := Cond.code y cc mL none :: WA) B0.pre
  have hE : NE G B (ord f i) (fun q => B + ord f i ≤ q) y.cls cc mL p s m ((.inr (f, i) :: extra : List XV).map (cv G)).toArray c := ⟨B0.exec, B0.bytes, hml, findClass_of_methodNamed B0.named, fun w hw => hts w (List.mem_cons_of_mem _ hw), hK, hG, hW, fun _ h => h⟩
  have hin : meth.name = "<init>" := (name_of_methodNamed B0.named B0.method).1.trans hyi
  obtain ⟨ls, hls, hlv⟩ := entry_xlv G m (.inr (f, i) :: extra) mL (by simpa using hm)
  rw [hls]
  exact body p e s m _ below meth c hE B0.returns B0.notSynchronized hin ls s.heap [] hlv hN va_S.rf
end NCALLS
