/-! OWN KIT: abstract values (an int, or a place (family, number)), memory by family, number, slot; the judgement XJ with locals and stack as lists of abstract values -/
abbrev XV : Type := Int32 ⊕ (Nat × Nat)
abbrev Mem : Type := Nat → Nat → Nat → Int32
abbrev XG : Type := (Nat → ClassId) × (Nat → Nat → Nat) × (Nat → Nat → Nat) × (Nat → ClassId)
def mset (μ : Mem) (f i j : Nat) (x : Int32) : Mem := fun f' i' => if f' = f ∧ i' = i then upd (μ f' i') j x else μ f' i'
theorem mset_same (μ : Mem) (f i j : Nat) (x : Int32) : mset μ f i j x f i = upd (μ f i) j x := by simp [mset]
theorem mset_f {μ : Mem} {f i j f' : Nat} {x : Int32} (h : f' ≠ f) : mset μ f i j x f' = μ f' := by funext i'; simp [mset, h]
theorem mset_i {μ : Mem} {f i j f' i' : Nat} {x : Int32} (h : i' ≠ i) : mset μ f i j x f' i' = μ f' i' := by simp [mset, h]
theorem mset_ne {μ : Mem} {f i j f' i' : Nat} {x : Int32} (h : ¬ (f' = f ∧ i' = i)) : mset μ f i j x f' i' = μ f' i' := if_neg h
theorem mset_at (μ : Mem) (f i j : Nat) (x : Int32) : mset μ f i j x f i j = x := by rw [mset_same]; simp [upd]
theorem mset_j {μ : Mem} {f i j j' : Nat} {x : Int32} (h : j' ≠ j) : mset μ f i j x f i j' = μ f i j' := by rw [mset_same]; simp [upd, h]
def cv (G : XG) : XV → Value
  | .inl x => .int x
  | .inr q => .ref (G.2.2.1 q.1 q.2)
theorem cv_cat (G : XG) (v : XV) : (cv G v).category = 1 := by cases v <;> rfl
theorem cv_ref (G : XG) (q : Nat × Nat) : ∃ a, cv G (.inr q) = .ref a := ⟨_, rfl⟩
def xf (G : XG) (μ : Mem) (f i : Nat) : List Value := (List.range (xns f)).map fun j => match xsl f j with
  | none => Value.int (μ f i j)
  | some q => Value.ref (G.2.2.1 q.1 (q.2 i))
theorem xf_at {G : XG} {μ : Mem} {f i j : Nat} (h : j < xns f) : (xf G μ f i)[j]? = some (match xsl f j with | none => Value.int (μ f i j) | some q => Value.ref (G.2.2.1 q.1 (q.2 i))) := by
  simp [xf, List.getElem?_map, List.getElem?_range h]
theorem xf_set {G : XG} {μ : Mem} {f i j : Nat} {x : Int32} (h : j < xns f) (hs : xsl f j = none) : (xf G μ f i).set j (.int x) = xf G (mset μ f i j x) f i := by
  apply List.ext_getElem?
  intro k
  by_cases hk : k < xns f
  · rw [xf_at hk, mset_same]
    by_cases e : k = j
    · subst e
      rw [List.getElem?_set_self (by simp [xf]; exact hk), hs]
      simp [upd]
    · rw [List.getElem?_set_ne (Ne.symm e), xf_at hk]
      simp [upd, e]
  · rw [List.getElem?_eq_none (by simp [xf]; omega), List.getElem?_eq_none (by simp [xf]; omega)]
/-- what lies at a place -/
def xc (G : XG) (μ : Mem) (f i : Nat) : va_E := match xkd f with
  | 0 => .inr (xci f, xf G μ f i)
  | 1 => .inl (G.2.2.2 0, xln f i, .inl (μ f i))
  | 2 => .inl (G.2.2.2 1, xln f i, .inl (μ f i))
  | t => .inl (G.2.2.2 (t - 1), xln f i, .inr (.inr (.inr (.inr fun k => some (G.2.2.1 (xel f).1 ((xel f).2 i k))))))
theorem xc0 {G : XG} {μ : Mem} {f i : Nat} (h : xkd f = 0) : xc G μ f i = .inr (xci f, xf G μ f i) := by simp [xc, h]
theorem xc1 {G : XG} {μ : Mem} {f i : Nat} (h : xkd f = 1) : xc G μ f i = .inl (G.2.2.2 0, xln f i, .inl (μ f i)) := by simp [xc, h]
theorem xc2 {G : XG} {μ : Mem} {f i : Nat} (h : xkd f = 2) : xc G μ f i = .inl (G.2.2.2 1, xln f i, .inl (μ f i)) := by simp [xc, h]
theorem xc3 {G : XG} {μ : Mem} {f i t : Nat} (h : xkd f = t + 3) : xc G μ f i = .inl (G.2.2.2 (t + 2), xln f i, .inr (.inr (.inr (.inr fun k => some (G.2.2.1 (xel f).1 ((xel f).2 i k)))))) := by simp [xc, h]
theorem xc_ne {G : XG} {μ μ' : Mem} {f i : Nat} (h : μ' f i = μ f i) : xc G μ' f i = xc G μ f i := by
  unfold xc xf
  rw [h]
def XP (G : XG) (μ : Mem) (H : Heap) : Prop := ∀ f i, i < xcn f → va_at (G.1, G.2.1) vwCl (G.2.2.1 f i, xc G μ f i) H
def XI (G : XG) : Prop := ∀ f i f' i', i < xcn f → i' < xcn f' → G.2.2.1 f i = G.2.2.1 f' i' → f = f' ∧ i = i'
def xA (G : XG) : Nat → Prop := fun q => ∃ f i, i < xcn f ∧ G.2.2.1 f i = q
def XU (G : XG) (μ : Mem) (U : State) : Prop := XP G μ U.heap ∧ va_K (G.1, G.2.1) vwCl (xty G) U
theorem XP.one {G : XG} {μ : Mem} {H : Heap} (h : XP G μ H) {f i : Nat} (hi : i < xcn f) {e : va_E} (he : xc G μ f i = e) : va_P (G.1, G.2.1) vwCl [(G.2.2.1 f i, e)] H := by
  intro k q hk
  have hz : k < 1 := (List.getElem?_eq_some_iff.mp hk).1
  rw [show k = 0 by omega] at hk
  cases hk
  rw [← he]
  exact h f i hi
/-- one place is written -/
theorem XP.put {G : XG} {μ μ' : Mem} {H H1 : Heap} (hI : XI G) (h : XP G μ H) {f i : Nat} (hi : i < xcn f) (hn : va_at (G.1, G.2.1) vwCl (G.2.2.1 f i, xc G μ' f i) H1) (ho : ∀ q, q ≠ G.2.2.1 f i → H1[q]? = H[q]?) (hm : ∀ f' i', ¬ (f' = f ∧ i' = i) → μ' f' i' = μ f' i') : XP G μ' H1 := by
  intro f' i' hi'
  by_cases e : f' = f ∧ i' = i
  · obtain ⟨rfl, rfl⟩ := e
    exact hn
  · rw [xc_ne (hm f' i' e)]
    exact (h f' i' hi').kept (ho _ (fun q => e (hI f' i' f i hi' hi q)))
/-- a value is an int, the script, or a place that is there -/
def okv : XV → Prop
  | .inl _ => True
  | .inr q => q.1 = 99 ∨ q.2 < xcn q.1
def oks (st : List XV) : Prop := ∀ v ∈ st, okv v
def okl (L : List (Option XV)) : Prop := ∀ v, some v ∈ L → okv v
theorem oks.tl {v : XV} {st : List XV} (h : oks (v :: st)) : oks st := fun w hw => h w (List.mem_cons_of_mem _ hw)
theorem oks.hd {v : XV} {st : List XV} (h : oks (v :: st)) : okv v := h v List.mem_cons_self
theorem oks.cons {v : XV} {st : List XV} (h : oks st) (hv : okv v) : oks (v :: st) := fun w hw => by
  rcases List.mem_cons.mp hw with rfl | hw
  · exact hv
  · exact h w hw
theorem oks.int {x : Int32} {st : List XV} (h : oks st) : oks (.inl x :: st) := h.cons trivial
theorem okl.set {L : List (Option XV)} {i : Nat} {v : XV} (h : okl L) (hv : okv v) : okl (L.set i (some v)) := fun w hw => by
  rcases List.mem_or_eq_of_mem_set hw with h1 | h1
  · exact h w h1
  · cases h1
    exact hv
def xlv (G : XG) (ls : Array Slot) (nL : Nat) (L : List (Option XV)) : Prop := ls.size = nL ∧ L.length = nL ∧ lv_wf ls ∧ ∀ (k : Nat) (v : XV), L[k]? = some (some v) → ls[k]? = some (.val (cv G v))
def xll (G : XG) (L : List (Option XV)) : List (Nat × Value) := (List.range L.length).filterMap fun k => (L[k]?.join).map fun v => (k, cv G v)
theorem xll_mem {G : XG} {L : List (Option XV)} {q : Nat × Value} : q ∈ xll G L ↔ ∃ v, L[q.1]? = some (some v) ∧ q.2 = cv G v := by
  constructor
  · intro h
    obtain ⟨k, hk, he⟩ := List.mem_filterMap.mp h
    cases e : L[k]? with
    | none => rw [e] at he; cases he
    | some o =>
      cases o with
      | none => rw [e] at he; cases he
      | some v =>
        rw [e] at he
        simp at he
        subst he
        exact ⟨v, e, rfl⟩
  · rintro ⟨v, h1, h2⟩
    refine List.mem_filterMap.mpr ⟨q.1, List.mem_range.mpr ((List.getElem?_eq_some_iff.mp h1).1), ?_⟩
    rw [h1]
    simp
    rw [← h2]
theorem xlv.has {G : XG} {ls : Array Slot} {nL : Nat} {L : List (Option XV)} (h : xlv G ls nL L) : lv_has ls nL (xll G L) := by
  refine ⟨h.1, h.2.2.1, fun q hq => ?_⟩
  obtain ⟨v, h1, h2⟩ := xll_mem.mp hq
  rw [h2]
  exact h.2.2.2 q.1 v h1
theorem xlv.stored {G : XG} {ls ls' : Array Slot} {nL i : Nat} {L : List (Option XV)} {v : XV} (h : xlv G ls nL L) (hi : i < nL) (h' : lv_has ls' nL ((i, cv G v) :: (xll G L).filter (fun q => !(q.1 == i) && !(q.1 + 1 == i && q.2.category == 2)))) : xlv G ls' nL (L.set i (some v)) := by
  refine ⟨h'.1, by rw [List.length_set]; exact h.2.1, h'.2.1, fun k w hk => ?_⟩
  by_cases e : k = i
  · subst e
    rw [List.getElem?_set_self (by rw [h.2.1]; exact hi)] at hk
    cases hk
    exact h'.2.2 (k, cv G v) List.mem_cons_self
  · rw [List.getElem?_set_ne (Ne.symm e)] at hk
    refine h'.2.2 (k, cv G w) (List.mem_cons_of_mem _ (List.mem_filter.mpr ⟨xll_mem.mpr ⟨w, hk, rfl⟩, ?_⟩))
    simp [e, cv_cat]
/-- fewer locals known -/
theorem xlv.less {G : XG} {ls : Array Slot} {nL : Nat} {L L' : List (Option XV)} (h : xlv G ls nL L) (hl : L'.length = L.length) (hs : ∀ (k : Nat) (v : XV), L'[k]? = some (some v) → L[k]? = some (some v)) : xlv G ls nL L' := ⟨h.1, hl.trans h.2.1, h.2.2.1, fun k v hk => h.2.2.2 k v (hs k v hk)⟩
def xr (d : Nat) : Room := { frames := d, cells := 0, slots := 0, locals := 40 * d }
def XJ (G : XG) (A : Nat → Prop) (nL : Nat) (p : Program) (l : Launch) (e : Env) (R : Room) (s : State) (m : MethodId) (args : Array Value) (below : List Frame) (meth : Method) (c : Code) (cs sl : Nat) (Q : State → Prop) (pc : Nat) (L : List (Option XV)) (st : List XV) (μ : Mem) : Prop :=
  ∀ (ls : Array Slot) (H : Heap) (locs : List Loc), oks st → okl L → xlv G ls nL L → XP G μ H → va_S A s.heap H locs → W p l e R s m args below meth c H locs cs sl Q (F0 m pc ls (st.map (cv G)))
def XE (G : XG) (A : Nat → Prop) (own : String) (cc : ByteArray) (nL : Nat) (p : Program) (s : State) (m : MethodId) (args : Array Value) (c : Code) : Prop :=
  p.tables.exec = Jvm.exec ∧ c.code = cc ∧ c.maxLocals = nL ∧ s.vm.findClass own = some m.cls ∧ (∀ w ∈ WA, w.before args s = true) ∧ va_K (G.1, G.2.1) vwCl (xty G) s ∧ XI G ∧ ∀ q, xA G q → A q
section XROWS
variable {G : XG} {A : Nat → Prop} {nL : Nat} {p : Program} {l : Launch} {e : Env} {R : Room} {s : State} {m : MethodId} {args : Array Value} {below : List Frame} {meth : Method} {c : Code} {cs sl : Nat} {Q : State → Prop} {pc : Nat} {L : List (Option XV)} {st : List XV} {μ : Mem} {own : String} {cc : ByteArray}
theorem xj_loc {L' : List (Option XV)} (h : L = L') (kk : XJ G A nL p l e R s m args below meth c cs sl Q pc L' st μ) : XJ G A nL p l e R s m args below meth c cs sl Q pc L st μ := h ▸ kk
theorem xj_st {st' : List XV} (h : st = st') (kk : XJ G A nL p l e R s m args below meth c cs sl Q pc L st' μ) : XJ G A nL p l e R s m args below meth c cs sl Q pc L st μ := h ▸ kk
theorem xj_mem {μ' : Mem} (h : μ = μ') (kk : XJ G A nL p l e R s m args below meth c cs sl Q pc L st μ') : XJ G A nL p l e R s m args below meth c cs sl Q pc L st μ := h ▸ kk
/-- some locals are forgotten -/
theorem xj_less {L' : List (Option XV)} (hl : L'.length = L.length) (hs : ∀ (k : Nat) (v : XV), L'[k]? = some (some v) → L[k]? = some (some v)) (kk : XJ G A nL p l e R s m args below meth c cs sl Q pc L' st μ) : XJ G A nL p l e R s m args below meth c cs sl Q pc L st μ :=
  fun ls H locs ho hol hl1 hP hS => kk ls H locs ho (fun v hv => by
    obtain ⟨k, hk⟩ := List.getElem?_of_mem hv
    exact hol v (List.mem_of_getElem? (hs k v hk))) (hl1.less hl hs) hP hS
theorem xj_iconst (E : XE G A own cc nL p s m args c) {n : Int} {v : Int32} (hd : decode cc pc = .ok (.iconst n, 1)) (hv : Int32.ofInt n = v) (kk : XJ G A nL p l e R s m args below meth c cs sl Q (pc + 1) L (.inl v :: st) μ) : XJ G A nL p l e R s m args below meth c cs sl Q pc L st μ :=
  fun ls H locs ho hol hl hP hS => lv_iconst E.1 E.2.1 hd hv (kk ls H locs ho.int hol hl hP hS)
theorem xj_bipush (E : XE G A own cc nL p s m args c) {n : Int} {v : Int32} (hd : decode cc pc = .ok (.bipush n, 2)) (hv : (Int8.ofInt n).toInt32 = v) (kk : XJ G A nL p l e R s m args below meth c cs sl Q (pc + 2) L (.inl v :: st) μ) : XJ G A nL p l e R s m args below meth c cs sl Q pc L st μ :=
  fun ls H locs ho hol hl hP hS => lv_bipush E.1 E.2.1 hd hv (kk ls H locs ho.int hol hl hP hS)
theorem xj_sipush (E : XE G A own cc nL p s m args c) {n : Int} {v : Int32} (hd : decode cc pc = .ok (.sipush n, 3)) (hv : (Int16.ofInt n).toInt32 = v) (kk : XJ G A nL p l e R s m args below meth c cs sl Q (pc + 3) L (.inl v :: st) μ) : XJ G A nL p l e R s m args below meth c cs sl Q pc L st μ :=
  fun ls H locs ho hol hl hP hS => lv_sipush E.1 E.2.1 hd hv (kk ls H locs ho.int hol hl hP hS)
theorem xj_iload_n (E : XE G A own cc nL p s m args c) {k : Fin 4} {x : Int32} (hd : decode cc pc = .ok (.iload_n k, 1)) (hL : L[(k : Nat)]? = some (some (.inl x))) (kk : XJ G A nL p l e R s m args below meth c cs sl Q (pc + 1) L (.inl x :: st) μ) : XJ G A nL p l e R s m args below meth c cs sl Q pc L st μ :=
  fun ls H locs ho hol hl hP hS => lv_iload_n E.1 E.2.1 hd rfl (hl.2.2.2 _ _ hL) (kk ls H locs ho.int hol hl hP hS)
theorem xj_iload (E : XE G A own cc nL p s m args c) {k : Nat} {x : Int32} (hd : decode cc pc = .ok (.iload k, 2)) (hL : L[k]? = some (some (.inl x))) (kk : XJ G A nL p l e R s m args below meth c cs sl Q (pc + 2) L (.inl x :: st) μ) : XJ G A nL p l e R s m args below meth c cs sl Q pc L st μ :=
  fun ls H locs ho hol hl hP hS => lv_iload E.1 E.2.1 hd (hl.2.2.2 _ _ hL) (kk ls H locs ho.int hol hl hP hS)
theorem xj_aload_n (E : XE G A own cc nL p s m args c) {k : Fin 4} {q : Nat × Nat} (hd : decode cc pc = .ok (.aload_n k, 1)) (hL : L[(k : Nat)]? = some (some (.inr q))) (kk : XJ G A nL p l e R s m args below meth c cs sl Q (pc + 1) L (.inr q :: st) μ) : XJ G A nL p l e R s m args below meth c cs sl Q pc L st μ :=
  fun ls H locs ho hol hl hP hS => lv_aload_n E.1 E.2.1 hd rfl (hl.2.2.2 _ _ hL) (kk ls H locs (ho.cons (hol _ (List.mem_of_getElem? hL))) hol hl hP hS)
theorem xj_aload (E : XE G A own cc nL p s m args c) {k : Nat} {q : Nat × Nat} (hd : decode cc pc = .ok (.aload k, 2)) (hL : L[k]? = some (some (.inr q))) (kk : XJ G A nL p l e R s m args below meth c cs sl Q (pc + 2) L (.inr q :: st) μ) : XJ G A nL p l e R s m args below meth c cs sl Q pc L st μ :=
  fun ls H locs ho hol hl hP hS => lv_aload E.1 E.2.1 hd (hl.2.2.2 _ _ hL) (kk ls H locs (ho.cons (hol _ (List.mem_of_getElem? hL))) hol hl hP hS)
theorem xj_istore_n (E : XE G A own cc nL p s m args c) {k : Fin 4} {x : Int32} {L' : List (Option XV)} (hd : decode cc pc = .ok (.istore_n k, 1)) (hn : (k : Nat) < nL) (hL : L.set k (some (.inl x)) = L') (kk : XJ G A nL p l e R s m args below meth c cs sl Q (pc + 1) L' st μ) : XJ G A nL p l e R s m args below meth c cs sl Q pc L (.inl x :: st) μ := by
  subst hL
  exact fun ls H locs ho hol hl hP hS => lv_istore_n E.1 E.2.1 hd rfl hl.has hn rfl (fun ls' h' => kk ls' H locs ho.tl (hol.set trivial) (hl.stored hn h') hP hS)
theorem xj_istore (E : XE G A own cc nL p s m args c) {k : Nat} {x : Int32} {L' : List (Option XV)} (hd : decode cc pc = .ok (.istore k, 2)) (hn : k < nL) (hL : L.set k (some (.inl x)) = L') (kk : XJ G A nL p l e R s m args below meth c cs sl Q (pc + 2) L' st μ) : XJ G A nL p l e R s m args below meth c cs sl Q pc L (.inl x :: st) μ := by
  subst hL
  exact fun ls H locs ho hol hl hP hS => lv_istore E.1 E.2.1 hd hl.has hn rfl (fun ls' h' => kk ls' H locs ho.tl (hol.set trivial) (hl.stored hn h') hP hS)
theorem xj_astore_n (E : XE G A own cc nL p s m args c) {k : Fin 4} {q : Nat × Nat} {L' : List (Option XV)} (hd : decode cc pc = .ok (.astore_n k, 1)) (hn : (k : Nat) < nL) (hL : L.set k (some (.inr q)) = L') (kk : XJ G A nL p l e R s m args below meth c cs sl Q (pc + 1) L' st μ) : XJ G A nL p l e R s m args below meth c cs sl Q pc L (.inr q :: st) μ := by
  subst hL
  exact fun ls H locs ho hol hl hP hS => lv_astore_n E.1 E.2.1 hd rfl hl.has hn rfl (fun ls' h' => kk ls' H locs ho.tl (hol.set ho.hd) (hl.stored hn h') hP hS)
theorem xj_astore (E : XE G A own cc nL p s m args c) {k : Nat} {q : Nat × Nat} {L' : List (Option XV)} (hd : decode cc pc = .ok (.astore k, 2)) (hn : k < nL) (hL : L.set k (some (.inr q)) = L') (kk : XJ G A nL p l e R s m args below meth c cs sl Q (pc + 2) L' st μ) : XJ G A nL p l e R s m args below meth c cs sl Q pc L (.inr q :: st) μ := by
  subst hL
  exact fun ls H locs ho hol hl hP hS => lv_astore E.1 E.2.1 hd hl.has hn rfl (fun ls' h' => kk ls' H locs ho.tl (hol.set ho.hd) (hl.stored hn h') hP hS)
theorem xj_iinc (E : XE G A own cc nL p s m args c) {k : Nat} {n : Int} {x v : Int32} {L' : List (Option XV)} (hd : decode cc pc = .ok (.iinc k n, 3)) (hx : L[k]? = some (some (.inl x))) (hv : x + Int32.ofInt n = v) (hL : L.set k (some (.inl v)) = L') (kk : XJ G A nL p l e R s m args below meth c cs sl Q (pc + 3) L' st μ) : XJ G A nL p l e R s m args below meth c cs sl Q pc L st μ := by
  subst hL
  intro ls H locs ho hol hl hP hS
  have hn : k < nL := by rw [← hl.2.1]; exact (List.getElem?_eq_some_iff.mp hx).1
  have hm : ((k, Value.int x) : Nat × Value) ∈ xll G L := xll_mem.mpr ⟨.inl x, hx, rfl⟩
  obtain ⟨q, hq⟩ := List.getElem?_of_mem hm
  exact lv_iinc E.1 E.2.1 hd hl.has hq hv hn rfl (fun ls' h' => kk ls' H locs ho (hol.set trivial) (hl.stored (v := .inl v) hn h') hP hS)
theorem xj_iadd (E : XE G A own cc nL p s m args c) {x y : Int32} (hd : decode cc pc = .ok (.iadd, 1)) (kk : XJ G A nL p l e R s m args below meth c cs sl Q (pc + 1) L (.inl (x + y) :: st) μ) : XJ G A nL p l e R s m args below meth c cs sl Q pc L (.inl y :: .inl x :: st) μ :=
  fun ls H locs ho hol hl hP hS => lv_iadd E.1 E.2.1 hd (kk ls H locs ho.tl.tl.int hol hl hP hS)
theorem xj_isub (E : XE G A own cc nL p s m args c) {x y : Int32} (hd : decode cc pc = .ok (.isub, 1)) (kk : XJ G A nL p l e R s m args below meth c cs sl Q (pc + 1) L (.inl (x - y) :: st) μ) : XJ G A nL p l e R s m args below meth c cs sl Q pc L (.inl y :: .inl x :: st) μ :=
  fun ls H locs ho hol hl hP hS => lv_isub E.1 E.2.1 hd (kk ls H locs ho.tl.tl.int hol hl hP hS)
theorem xj_imul (E : XE G A own cc nL p s m args c) {x y : Int32} (hd : decode cc pc = .ok (.imul, 1)) (kk : XJ G A nL p l e R s m args below meth c cs sl Q (pc + 1) L (.inl (x * y) :: st) μ) : XJ G A nL p l e R s m args below meth c cs sl Q pc L (.inl y :: .inl x :: st) μ :=
  fun ls H locs ho hol hl hP hS => lv_imul E.1 E.2.1 hd (kk ls H locs ho.tl.tl.int hol hl hP hS)
theorem xj_iand (E : XE G A own cc nL p s m args c) {x y : Int32} (hd : decode cc pc = .ok (.iand, 1)) (kk : XJ G A nL p l e R s m args below meth c cs sl Q (pc + 1) L (.inl (x &&& y) :: st) μ) : XJ G A nL p l e R s m args below meth c cs sl Q pc L (.inl y :: .inl x :: st) μ :=
  fun ls H locs ho hol hl hP hS => lv_iand E.1 E.2.1 hd (kk ls H locs ho.tl.tl.int hol hl hP hS)
theorem xj_ishl (E : XE G A own cc nL p s m args c) {x y : Int32} (hd : decode cc pc = .ok (.ishl, 1)) (kk : XJ G A nL p l e R s m args below meth c cs sl Q (pc + 1) L (.inl (x <<< (y &&& 31)) :: st) μ) : XJ G A nL p l e R s m args below meth c cs sl Q pc L (.inl y :: .inl x :: st) μ :=
  fun ls H locs ho hol hl hP hS => lv_ishl E.1 E.2.1 hd (kk ls H locs ho.tl.tl.int hol hl hP hS)
theorem xj_ishr (E : XE G A own cc nL p s m args c) {x y : Int32} (hd : decode cc pc = .ok (.ishr, 1)) (kk : XJ G A nL p l e R s m args below meth c cs sl Q (pc + 1) L (.inl (x >>> (y &&& 31)) :: st) μ) : XJ G A nL p l e R s m args below meth c cs sl Q pc L (.inl y :: .inl x :: st) μ :=
  fun ls H locs ho hol hl hP hS => lv_ishr E.1 E.2.1 hd (kk ls H locs ho.tl.tl.int hol hl hP hS)
theorem xj_ineg (E : XE G A own cc nL p s m args c) {x : Int32} (hd : decode cc pc = .ok (.ineg, 1)) (kk : XJ G A nL p l e R s m args below meth c cs sl Q (pc + 1) L (.inl (-x) :: st) μ) : XJ G A nL p l e R s m args below meth c cs sl Q pc L (.inl x :: st) μ :=
  fun ls H locs ho hol hl hP hS => lv_ineg E.1 E.2.1 hd (kk ls H locs ho.tl.int hol hl hP hS)
theorem xj_idiv (E : XE G A own cc nL p s m args c) {x y : Int32} (hd : decode cc pc = .ok (.idiv, 1)) (hne : ¬ y = 0) (kk : XJ G A nL p l e R s m args below meth c cs sl Q (pc + 1) L (.inl (x / y) :: st) μ) : XJ G A nL p l e R s m args below meth c cs sl Q pc L (.inl y :: .inl x :: st) μ :=
  fun ls H locs ho hol hl hP hS => lv_idiv E.1 E.2.1 hd hne (kk ls H locs ho.tl.tl.int hol hl hP hS)
theorem xj_irem (E : XE G A own cc nL p s m args c) {x y : Int32} (hd : decode cc pc = .ok (.irem, 1)) (hne : ¬ y = 0) (kk : XJ G A nL p l e R s m args below meth c cs sl Q (pc + 1) L (.inl (x - x / y * y) :: st) μ) : XJ G A nL p l e R s m args below meth c cs sl Q pc L (.inl y :: .inl x :: st) μ :=
  fun ls H locs ho hol hl hP hS => lv_irem E.1 E.2.1 hd hne (kk ls H locs ho.tl.tl.int hol hl hP hS)
theorem xj_dup (E : XE G A own cc nL p s m args c) {v : XV} (hd : decode cc pc = .ok (.dup, 1)) (kk : XJ G A nL p l e R s m args below meth c cs sl Q (pc + 1) L (v :: v :: st) μ) : XJ G A nL p l e R s m args below meth c cs sl Q pc L (v :: st) μ :=
  fun ls H locs ho hol hl hP hS => lv_dup E.1 E.2.1 hd (cv_cat G v) (kk ls H locs (ho.cons ho.hd) hol hl hP hS)
theorem xj_pop (E : XE G A own cc nL p s m args c) {v : XV} (hd : decode cc pc = .ok (.pop, 1)) (kk : XJ G A nL p l e R s m args below meth c cs sl Q (pc + 1) L st μ) : XJ G A nL p l e R s m args below meth c cs sl Q pc L (v :: st) μ :=
  fun ls H locs ho hol hl hP hS => lv_pop E.1 E.2.1 hd (cv_cat G v) (kk ls H locs ho.tl hol hl hP hS)
theorem xj_dup_x1 (E : XE G A own cc nL p s m args c) {v w : XV} (hd : decode cc pc = .ok (.dup_x1, 1)) (kk : XJ G A nL p l e R s m args below meth c cs sl Q (pc + 1) L (v :: w :: v :: st) μ) : XJ G A nL p l e R s m args below meth c cs sl Q pc L (v :: w :: st) μ :=
  fun ls H locs ho hol hl hP hS => lv_dup_x1 E.1 E.2.1 hd (cv_cat G v) (cv_cat G w) (kk ls H locs (((ho.tl.tl.cons ho.hd).cons ho.tl.hd).cons ho.hd) hol hl hP hS)
theorem xj_dup_x2 (E : XE G A own cc nL p s m args c) {v w z : XV} (hd : decode cc pc = .ok (.dup_x2, 1)) (kk : XJ G A nL p l e R s m args below meth c cs sl Q (pc + 1) L (v :: w :: z :: v :: st) μ) : XJ G A nL p l e R s m args below meth c cs sl Q pc L (v :: w :: z :: st) μ :=
  fun ls H locs ho hol hl hP hS => lv_dup_x2 E.1 E.2.1 hd (cv_cat G v) (cv_cat G w) (cv_cat G z) (kk ls H locs ((((ho.tl.tl.tl.cons ho.hd).cons ho.tl.tl.hd).cons ho.tl.hd).cons ho.hd) hol hl hP hS)
theorem xj_dup2 (E : XE G A own cc nL p s m args c) {v w : XV} (hd : decode cc pc = .ok (.dup2, 1)) (kk : XJ G A nL p l e R s m args below meth c cs sl Q (pc + 1) L (v :: w :: v :: w :: st) μ) : XJ G A nL p l e R s m args below meth c cs sl Q pc L (v :: w :: st) μ :=
  fun ls H locs ho hol hl hP hS => lv_dup2_11 E.1 E.2.1 hd (cv_cat G v) (cv_cat G w) (kk ls H locs ((ho.cons ho.tl.hd).cons ho.hd) hol hl hP hS)
theorem xj_goto (E : XE G A own cc nL p s m args c) {off : Int} {tgt : Nat} (hd : decode cc pc = .ok (.goto off, 3)) (ht : (pc : Int) + off = (tgt : Int)) (kk : XJ G A nL p l e R s m args below meth c cs sl Q tgt L st μ) : XJ G A nL p l e R s m args below meth c cs sl Q pc L st μ :=
  fun ls H locs ho hol hl hP hS => lv_goto E.1 E.2.1 hd ht (kk ls H locs ho hol hl hP hS)
theorem xj_if_eq (E : XE G A own cc nL p s m args c) {x : Int32} {off : Int} {tgt : Nat} (hd : decode cc pc = .ok (.ifCond .eq off, 3)) (ht : (pc : Int) + off = (tgt : Int)) (kt : x = 0 → XJ G A nL p l e R s m args below meth c cs sl Q tgt L st μ) (kf : ¬ x = 0 → XJ G A nL p l e R s m args below meth c cs sl Q (pc + 3) L st μ) : XJ G A nL p l e R s m args below meth c cs sl Q pc L (.inl x :: st) μ :=
  fun ls H locs ho hol hl hP hS => lv_if_eq E.1 E.2.1 hd ht (fun h => kt h ls H locs ho.tl hol hl hP hS) (fun h => kf h ls H locs ho.tl hol hl hP hS)
theorem xj_icmp_eq (E : XE G A own cc nL p s m args c) {x y : Int32} {off : Int} {tgt : Nat} (hd : decode cc pc = .ok (.if_icmp .eq off, 3)) (ht : (pc : Int) + off = (tgt : Int)) (kt : x = y → XJ G A nL p l e R s m args below meth c cs sl Q tgt L st μ) (kf : ¬ x = y → XJ G A nL p l e R s m args below meth c cs sl Q (pc + 3) L st μ) : XJ G A nL p l e R s m args below meth c cs sl Q pc L (.inl y :: .inl x :: st) μ :=
  fun ls H locs ho hol hl hP hS => lv_icmp_eq E.1 E.2.1 hd ht (fun h => kt h ls H locs ho.tl.tl hol hl hP hS) (fun h => kf h ls H locs ho.tl.tl hol hl hP hS)
theorem xj_if_ne (E : XE G A own cc nL p s m args c) {x : Int32} {off : Int} {tgt : Nat} (hd : decode cc pc = .ok (.ifCond .ne off, 3)) (ht : (pc : Int) + off = (tgt : Int)) (kt : ¬ x = 0 → XJ G A nL p l e R s m args below meth c cs sl Q tgt L st μ) (kf : x = 0 → XJ G A nL p l e R s m args below meth c cs sl Q (pc + 3) L st μ) : XJ G A nL p l e R s m args below meth c cs sl Q pc L (.inl x :: st) μ :=
  fun ls H locs ho hol hl hP hS => lv_if_ne E.1 E.2.1 hd ht (fun h => kt h ls H locs ho.tl hol hl hP hS) (fun h => kf h ls H locs ho.tl hol hl hP hS)
theorem xj_icmp_ne (E : XE G A own cc nL p s m args c) {x y : Int32} {off : Int} {tgt : Nat} (hd : decode cc pc = .ok (.if_icmp .ne off, 3)) (ht : (pc : Int) + off = (tgt : Int)) (kt : ¬ x = y → XJ G A nL p l e R s m args below meth c cs sl Q tgt L st μ) (kf : x = y → XJ G A nL p l e R s m args below meth c cs sl Q (pc + 3) L st μ) : XJ G A nL p l e R s m args below meth c cs sl Q pc L (.inl y :: .inl x :: st) μ :=
  fun ls H locs ho hol hl hP hS => lv_icmp_ne E.1 E.2.1 hd ht (fun h => kt h ls H locs ho.tl.tl hol hl hP hS) (fun h => kf h ls H locs ho.tl.tl hol hl hP hS)
theorem xj_if_lt (E : XE G A own cc nL p s m args c) {x : Int32} {off : Int} {tgt : Nat} (hd : decode cc pc = .ok (.ifCond .lt off, 3)) (ht : (pc : Int) + off = (tgt : Int)) (kt : x < 0 → XJ G A nL p l e R s m args below meth c cs sl Q tgt L st μ) (kf : ¬ x < 0 → XJ G A nL p l e R s m args below meth c cs sl Q (pc + 3) L st μ) : XJ G A nL p l e R s m args below meth c cs sl Q pc L (.inl x :: st) μ :=
  fun ls H locs ho hol hl hP hS => lv_if_lt E.1 E.2.1 hd ht (fun h => kt h ls H locs ho.tl hol hl hP hS) (fun h => kf h ls H locs ho.tl hol hl hP hS)
theorem xj_icmp_lt (E : XE G A own cc nL p s m args c) {x y : Int32} {off : Int} {tgt : Nat} (hd : decode cc pc = .ok (.if_icmp .lt off, 3)) (ht : (pc : Int) + off = (tgt : Int)) (kt : x < y → XJ G A nL p l e R s m args below meth c cs sl Q tgt L st μ) (kf : ¬ x < y → XJ G A nL p l e R s m args below meth c cs sl Q (pc + 3) L st μ) : XJ G A nL p l e R s m args below meth c cs sl Q pc L (.inl y :: .inl x :: st) μ :=
  fun ls H locs ho hol hl hP hS => lv_icmp_lt E.1 E.2.1 hd ht (fun h => kt h ls H locs ho.tl.tl hol hl hP hS) (fun h => kf h ls H locs ho.tl.tl hol hl hP hS)
theorem xj_if_ge (E : XE G A own cc nL p s m args c) {x : Int32} {off : Int} {tgt : Nat} (hd : decode cc pc = .ok (.ifCond .ge off, 3)) (ht : (pc : Int) + off = (tgt : Int)) (kt : 0 ≤ x → XJ G A nL p l e R s m args below meth c cs sl Q tgt L st μ) (kf : ¬ 0 ≤ x → XJ G A nL p l e R s m args below meth c cs sl Q (pc + 3) L st μ) : XJ G A nL p l e R s m args below meth c cs sl Q pc L (.inl x :: st) μ :=
  fun ls H locs ho hol hl hP hS => lv_if_ge E.1 E.2.1 hd ht (fun h => kt h ls H locs ho.tl hol hl hP hS) (fun h => kf h ls H locs ho.tl hol hl hP hS)
theorem xj_icmp_ge (E : XE G A own cc nL p s m args c) {x y : Int32} {off : Int} {tgt : Nat} (hd : decode cc pc = .ok (.if_icmp .ge off, 3)) (ht : (pc : Int) + off = (tgt : Int)) (kt : y ≤ x → XJ G A nL p l e R s m args below meth c cs sl Q tgt L st μ) (kf : ¬ y ≤ x → XJ G A nL p l e R s m args below meth c cs sl Q (pc + 3) L st μ) : XJ G A nL p l e R s m args below meth c cs sl Q pc L (.inl y :: .inl x :: st) μ :=
  fun ls H locs ho hol hl hP hS => lv_icmp_ge E.1 E.2.1 hd ht (fun h => kt h ls H locs ho.tl.tl hol hl hP hS) (fun h => kf h ls H locs ho.tl.tl hol hl hP hS)
theorem xj_if_gt (E : XE G A own cc nL p s m args c) {x : Int32} {off : Int} {tgt : Nat} (hd : decode cc pc = .ok (.ifCond .gt off, 3)) (ht : (pc : Int) + off = (tgt : Int)) (kt : 0 < x → XJ G A nL p l e R s m args below meth c cs sl Q tgt L st μ) (kf : ¬ 0 < x → XJ G A nL p l e R s m args below meth c cs sl Q (pc + 3) L st μ) : XJ G A nL p l e R s m args below meth c cs sl Q pc L (.inl x :: st) μ :=
  fun ls H locs ho hol hl hP hS => lv_if_gt E.1 E.2.1 hd ht (fun h => kt h ls H locs ho.tl hol hl hP hS) (fun h => kf h ls H locs ho.tl hol hl hP hS)
theorem xj_icmp_gt (E : XE G A own cc nL p s m args c) {x y : Int32} {off : Int} {tgt : Nat} (hd : decode cc pc = .ok (.if_icmp .gt off, 3)) (ht : (pc : Int) + off = (tgt : Int)) (kt : y < x → XJ G A nL p l e R s m args below meth c cs sl Q tgt L st μ) (kf : ¬ y < x → XJ G A nL p l e R s m args below meth c cs sl Q (pc + 3) L st μ) : XJ G A nL p l e R s m args below meth c cs sl Q pc L (.inl y :: .inl x :: st) μ :=
  fun ls H locs ho hol hl hP hS => lv_icmp_gt E.1 E.2.1 hd ht (fun h => kt h ls H locs ho.tl.tl hol hl hP hS) (fun h => kf h ls H locs ho.tl.tl hol hl hP hS)
theorem xj_if_le (E : XE G A own cc nL p s m args c) {x : Int32} {off : Int} {tgt : Nat} (hd : decode cc pc = .ok (.ifCond .le off, 3)) (ht : (pc : Int) + off = (tgt : Int)) (kt : x ≤ 0 → XJ G A nL p l e R s m args below meth c cs sl Q tgt L st μ) (kf : ¬ x ≤ 0 → XJ G A nL p l e R s m args below meth c cs sl Q (pc + 3) L st μ) : XJ G A nL p l e R s m args below meth c cs sl Q pc L (.inl x :: st) μ :=
  fun ls H locs ho hol hl hP hS => lv_if_le E.1 E.2.1 hd ht (fun h => kt h ls H locs ho.tl hol hl hP hS) (fun h => kf h ls H locs ho.tl hol hl hP hS)
theorem xj_icmp_le (E : XE G A own cc nL p s m args c) {x y : Int32} {off : Int} {tgt : Nat} (hd : decode cc pc = .ok (.if_icmp .le off, 3)) (ht : (pc : Int) + off = (tgt : Int)) (kt : x ≤ y → XJ G A nL p l e R s m args below meth c cs sl Q tgt L st μ) (kf : ¬ x ≤ y → XJ G A nL p l e R s m args below meth c cs sl Q (pc + 3) L st μ) : XJ G A nL p l e R s m args below meth c cs sl Q pc L (.inl y :: .inl x :: st) μ :=
  fun ls H locs ho hol hl hP hS => lv_icmp_le E.1 E.2.1 hd ht (fun h => kt h ls H locs ho.tl.tl hol hl hP hS) (fun h => kf h ls H locs ho.tl.tl hol hl hP hS)
theorem xj_tableOut (E : XE G A own cc nL p s m args c) {dflt lo hi : Int} {offs : Array Int} {len : Nat} {x : Int32} {tgt : Nat} (hd : decode cc pc = .ok (.tableswitch dflt lo hi offs, len)) (h : x.toInt < lo ∨ hi < x.toInt) (ht : (pc : Int) + dflt = (tgt : Int)) (kk : XJ G A nL p l e R s m args below meth c cs sl Q tgt L st μ) : XJ G A nL p l e R s m args below meth c cs sl Q pc L (.inl x :: st) μ :=
  fun ls H locs ho hol hl hP hS => lv_tableOut E.1 E.2.1 hd h ht (kk ls H locs ho.tl hol hl hP hS)
theorem xj_tableIn (E : XE G A own cc nL p s m args c) {dflt lo hi : Int} {offs : Array Int} {len : Nat} {x : Int32} {off : Int} {tgt : Nat} (hd : decode cc pc = .ok (.tableswitch dflt lo hi offs, len)) (h1 : ¬ x.toInt < lo) (h2 : ¬ hi < x.toInt) (ho' : offs[(x.toInt - lo).toNat]? = some off) (ht : (pc : Int) + off = (tgt : Int)) (kk : XJ G A nL p l e R s m args below meth c cs sl Q tgt L st μ) : XJ G A nL p l e R s m args below meth c cs sl Q pc L (.inl x :: st) μ :=
  fun ls H locs ho hol hl hP hS => lv_tableIn E.1 E.2.1 hd h1 h2 ho' ht (kk ls H locs ho.tl hol hl hP hS)
theorem okv_at {f i : Nat} (h : okv (.inr (f, i))) (hf : f ≠ 99) : i < xcn f := h.resolve_left hf
theorem xj_geti (E : XE G A own cc nL p s m args c) {f i j ci idx : Nat} (hF : XFl own idx ci j) (hk : xkd f = 0 ∧ f ≠ 99) (hc : xci f = ci) (hj : j < xns f) (hs : xsl f j = none) (hd : decode cc pc = .ok (.getfield idx, 3)) (kk : XJ G A nL p l e R s m args below meth c cs sl Q (pc + 3) L (.inl (μ f i j) :: st) μ) : XJ G A nL p l e R s m args below meth c cs sl Q pc L (.inr (f, i) :: st) μ := by
  intro ls H locs ho hol hl hP hS
  obtain ⟨C, T, N, h1, h2, h3, h4⟩ := hF
  subst hc
  refine va_get (D := (G.1, G.2.1)) (v := .int (μ f i j)) E.1 E.2.1 E.2.2.2.2.1 h3 E.2.2.2.1 E.2.2.2.2.2.1 (hP.one (okv_at ho.hd hk.2) (xc0 hk.1)) 0 rfl h1 j h2 (E.2.2.2.2.1 _ h4) (fun _ h => h) ?_ hd (kk ls H locs ho.tl.int hol hl hP hS)
  rw [xf_at hj, hs]
theorem xj_geta (E : XE G A own cc nL p s m args c) {f i j ci idx f' : Nat} {g : Nat → Nat} (hF : XFl own idx ci j) (hk : xkd f = 0 ∧ f ≠ 99) (hc : xci f = ci) (hj : j < xns f) (hs : xsl f j = some (f', g)) (hd : decode cc pc = .ok (.getfield idx, 3)) (kk : XJ G A nL p l e R s m args below meth c cs sl Q (pc + 3) L (.inr (f', g i) :: st) μ) : XJ G A nL p l e R s m args below meth c cs sl Q pc L (.inr (f, i) :: st) μ := by
  intro ls H locs ho hol hl hP hS
  obtain ⟨C, T, N, h1, h2, h3, h4⟩ := hF
  subst hc
  have hi := okv_at ho.hd hk.2
  refine va_get (D := (G.1, G.2.1)) (v := .ref (G.2.2.1 f' (g i))) E.1 E.2.1 E.2.2.2.2.1 h3 E.2.2.2.1 E.2.2.2.2.2.1 (hP.one hi (xc0 hk.1)) 0 rfl h1 j h2 (E.2.2.2.2.1 _ h4) (fun _ h => h) ?_ hd (kk ls H locs (ho.tl.cons (Or.inr (xsl_ok hs hi))) hol hl hP hS)
  rw [xf_at hj, hs]
/-- an int or boolean field is written -/
theorem xj_put (E : XE G A own cc nL p s m args c) {f i j ci idx : Nat} {x : Int32} {ty : FieldType} (hF : XFp own idx ci j ty) (hk : xkd f = 0 ∧ f ≠ 99) (hc : xci f = ci) (hj : j < xns f) (hs : xsl f j = none) (hx : narrow ty (.int x) = .int x ∧ fits ty (.int x) = true) (hd : decode cc pc = .ok (.putfield idx, 3)) (kk : XJ G A nL p l e R s m args below meth c cs sl Q (pc + 3) L st (mset μ f i j x)) : XJ G A nL p l e R s m args below meth c cs sl Q pc L (.inl x :: .inr (f, i) :: st) μ := by
  intro ls H locs ho hol hl hP hS
  obtain ⟨C, T, N, tf, hcl, hjN, hin, h4, hty, hnm, hfin, hd2⟩ := hF
  subst hc
  have hi := okv_at ho.tl.hd hk.2
  have hts := E.2.2.2.2.1
  have hK := E.2.2.2.2.2.1
  have hap := va_apart (own := own) hts hin tf hty hnm hK hcl
  have hat := hP f i hi
  rw [xc0 hk.1] at hat
  obtain ⟨r, h1, cell, q1, q2, q3, q4⟩ := hat
  have hr : r = (C, T, N) := Option.some.inj (h1.symm.trans hcl)
  subst hr
  obtain ⟨hSl, hfc, kC, hkC, hkind⟩ := hK.1 (xci f) _ hcl
  obtain ⟨cf, kf, fi, fd, hfi, hsl⟩ := hSl j hjN
  have hlay := hts _ (hin _ (u_in_lay hjN))
  unfold u_lay at hlay
  rw [if_neg (by rw [hfin]; decide)] at hlay
  have hst := (u_facts hfc hkC (u_lays hts hin hjN) hfi).1
  have h6 := u_store hfc hkC hkind hlay hfi hd2 hx.1 hx.2
  refine W.putK E.1 E.2.1 (f := fd) ⟨E.2.2.2.1, hts _ h4, ⟨_, _, _, hfi⟩, hst⟩ (by rw [q2]; exact h6) q1 q3 (by rw [hsl]; exact k2_hasslot (q4 j hjN)) rfl rfl hd fun H' e1 e2 e3 => ?_
  rw [hsl] at e1 ⊢
  refine kk ls H' _ ho.tl.tl hol hl (hP.put E.2.2.2.2.2.2.1 hi ?_ e3 (fun f' i' hne => mset_ne hne)) (hS.put e2 e3 (E.2.2.2.2.2.2.2 _ ⟨f, i, hi, rfl⟩))
  rw [xc0 hk.1, ← xf_set hj hs]
  exact ⟨_, hcl, t_OB.to (V := updV (vp_V (xf G μ f i)) j (.int x)) ⟨_, e1, q2, q3, t_set q4 hap hjN (.int x)⟩ (fun k _ => vp_updV_set (by simp [xf]; exact hj) (.int x) k)⟩
theorem narrow_i (x : Int32) : narrow .int (.int x) = .int x ∧ fits .int (.int x) = true := ⟨rfl, rfl⟩
theorem narrow_z {x : Int32} (h : x = 0 ∨ x = 1) : narrow .boolean (.int x) = .int x ∧ fits .boolean (.int x) = true := by
  rcases h with rfl | rfl <;> exact ⟨by decide +kernel, by decide +kernel⟩
theorem xj_len (E : XE G A own cc nL p s m args c) {f i : Nat} {n : Int32} (hk : (1 ≤ xkd f ∧ xkd f ≤ 6) ∧ f ≠ 99) (hn : Int32.ofNat (xln f i) = n) (hd : decode cc pc = .ok (.arraylength, 1)) (kk : XJ G A nL p l e R s m args below meth c cs sl Q (pc + 1) L (.inl n :: st) μ) : XJ G A nL p l e R s m args below meth c cs sl Q pc L (.inr (f, i) :: st) μ := by
  intro ls H locs ho hol hl hP hS
  have hi := okv_at ho.hd hk.2
  have hK := E.2.2.2.2.2.1
  obtain ⟨t, ht⟩ : ∃ t, xkd f = t + 1 := ⟨xkd f - 1, by omega⟩
  rcases (show t = 0 ∨ t = 1 ∨ ∃ u, t = u + 2 ∧ u < 4 by
    by_cases h0 : t = 0
    · exact Or.inl h0
    · by_cases h1 : t = 1
      · exact Or.inr (Or.inl h1)
      · exact Or.inr (Or.inr ⟨t - 2, by omega, by omega⟩)) with rfl | rfl | ⟨u, rfl, hu⟩
  · exact va_alen E.1 E.2.1 hK (hP.one hi (xc1 ht)) 0 0 rfl rfl hn hd (kk ls H locs ho.tl.int hol hl hP hS)
  · exact va_alen E.1 E.2.1 hK (hP.one hi (xc2 ht)) 0 1 rfl rfl hn hd (kk ls H locs ho.tl.int hol hl hP hS)
  · obtain ⟨ty, hty⟩ := xty_at G hu
    exact va_alen E.1 E.2.1 hK (hP.one hi (xc3 (by omega))) 0 (u + 2) rfl hty hn hd (kk ls H locs ho.tl.int hol hl hP hS)
theorem xj_iald (E : XE G A own cc nL p s m args c) {f i : Nat} {k : Int32} (hk : xkd f = 1 ∧ f ≠ 99) (hin : vp_in k (xln f i)) (hd : decode cc pc = .ok (.iaload, 1)) (kk : XJ G A nL p l e R s m args below meth c cs sl Q (pc + 1) L (.inl (μ f i k.toNatClampNeg) :: st) μ) : XJ G A nL p l e R s m args below meth c cs sl Q pc L (.inl k :: .inr (f, i) :: st) μ :=
  fun ls H locs ho hol hl hP hS => va_iald E.1 E.2.1 E.2.2.2.2.2.1 (hP.one (okv_at ho.tl.hd hk.2) (xc1 hk.1)) 0 0 rfl rfl hin hd (kk ls H locs ho.tl.tl.int hol hl hP hS)
theorem xj_zald (E : XE G A own cc nL p s m args c) {f i : Nat} {k : Int32} (hk : xkd f = 2 ∧ f ≠ 99) (hin : vp_in k (xln f i)) (hd : decode cc pc = .ok (.baload, 1)) (kk : XJ G A nL p l e R s m args below meth c cs sl Q (pc + 1) L (.inl (μ f i k.toNatClampNeg) :: st) μ) : XJ G A nL p l e R s m args below meth c cs sl Q pc L (.inl k :: .inr (f, i) :: st) μ :=
  fun ls H locs ho hol hl hP hS => va_zald E.1 E.2.1 E.2.2.2.2.2.1 (hP.one (okv_at ho.tl.hd hk.2) (xc2 hk.1)) 0 1 rfl rfl hin hd (kk ls H locs ho.tl.tl.int hol hl hP hS)
theorem xj_aald (E : XE G A own cc nL p s m args c) {f i f' : Nat} {g : Nat → Nat → Nat} {k : Int32} (hk : (3 ≤ xkd f ∧ xkd f ≤ 6) ∧ f ≠ 99) (hg : xel f = (f', g)) (hin : vp_in k (xln f i)) (hd : decode cc pc = .ok (.aaload, 1)) (kk : XJ G A nL p l e R s m args below meth c cs sl Q (pc + 1) L (.inr (f', g i k.toNatClampNeg) :: st) μ) : XJ G A nL p l e R s m args below meth c cs sl Q pc L (.inl k :: .inr (f, i) :: st) μ := by
  intro ls H locs ho hol hl hP hS
  have hi := okv_at ho.tl.hd hk.2
  obtain ⟨u, hu⟩ : ∃ u, xkd f = u + 3 := ⟨xkd f - 3, by omega⟩
  obtain ⟨C, hty⟩ := xty_at' G (u := u) (by omega)
  have hlt : k.toNatClampNeg < xln f i := Nat.not_le.mp fun q => hin (Or.inr q)
  have h1 := hP.one hi (xc3 hu)
  rw [hg] at h1
  exact va_aldq E.1 E.2.1 E.2.2.2.2.2.1 h1 0 (u + 2) rfl hty hin hd (kk ls H locs (ho.tl.tl.cons (Or.inr (xel_ok hg hk.1 hi hlt))) hol hl hP hS)
theorem xj_iast (E : XE G A own cc nL p s m args c) {f i : Nat} {k x : Int32} (hk : xkd f = 1 ∧ f ≠ 99) (hin : vp_in k (xln f i)) (hd : decode cc pc = .ok (.iastore, 1)) (kk : XJ G A nL p l e R s m args below meth c cs sl Q (pc + 1) L st (mset μ f i k.toNatClampNeg x)) : XJ G A nL p l e R s m args below meth c cs sl Q pc L (.inl x :: .inl k :: .inr (f, i) :: st) μ := by
  intro ls H locs ho hol hl hP hS
  have hi := okv_at ho.tl.tl.hd hk.2
  have hat := hP f i hi
  rw [xc1 hk.1] at hat
  refine W.iast E.1 E.2.1 hat ((E.2.2.2.2.2.1.2 0 _ rfl).1 (xln f i) (fun j => .int (μ f i j))) (fun q => by cases q) (by show ¬ (k < 0 ∨ (arrV _ _ _).slots.size ≤ _); rw [arrV_size]; exact hin) rfl rfl hd fun H1 e1 z oq => ?_
  refine kk ls H1 _ ho.tl.tl.tl hol hl (hP.put E.2.2.2.2.2.2.1 hi ?_ oq (fun f' i' hne => mset_ne hne)) (hS.put z oq (E.2.2.2.2.2.2.2 _ ⟨f, i, hi, rfl⟩))
  rw [xc1 hk.1, mset_same]
  show H1[_]? = some (vp_cell _ _)
  rw [e1, vp_cell_i, vp_cell_i, arrV_store]
  congr 2
  funext q
  by_cases hq : q = k.toNatClampNeg
  · subst hq
    simp [updV, upd]
  · simp [updV, upd, hq]
theorem xj_zast (E : XE G A own cc nL p s m args c) {f i : Nat} {k x : Int32} (hk : xkd f = 2 ∧ f ≠ 99) (hin : vp_in k (xln f i)) (hx : x = 0 ∨ x = 1) (hd : decode cc pc = .ok (.bastore, 1)) (kk : XJ G A nL p l e R s m args below meth c cs sl Q (pc + 1) L st (mset μ f i k.toNatClampNeg x)) : XJ G A nL p l e R s m args below meth c cs sl Q pc L (.inl x :: .inl k :: .inr (f, i) :: st) μ := by
  intro ls H locs ho hol hl hP hS
  have hi := okv_at ho.tl.tl.hd hk.2
  have hat := hP f i hi
  rw [xc2 hk.1] at hat
  refine W.zast E.1 E.2.1 hat ((E.2.2.2.2.2.1.2 1 _ rfl).1 (xln f i) (fun j => .int (μ f i j))) (fun q => by cases q) (by show ¬ (k < 0 ∨ (arrV _ _ _).slots.size ≤ _); rw [arrV_size]; exact hin) rfl rfl hd fun H1 e1 z oq => ?_
  refine kk ls H1 _ ho.tl.tl.tl hol hl (hP.put E.2.2.2.2.2.2.1 hi ?_ oq (fun f' i' hne => mset_ne hne)) (hS.put z oq (E.2.2.2.2.2.2.2 _ ⟨f, i, hi, rfl⟩))
  rw [xc2 hk.1, mset_same]
  show H1[_]? = some (vp_cell _ _)
  rw [e1, vp_cell_i, vp_cell_i, arrV_store, (narrow_z hx).1]
  congr 2
  funext q
  by_cases hq : q = k.toNatClampNeg
  · subst hq
    simp [updV, upd]
  · simp [updV, upd, hq]
end XROWS
/-! contracts: Post speaks of the answer and of the memory behind it -/
def okr : Option XV → Prop
  | none => True
  | some v => okv v
def xQ (G : XG) (Post : Option XV → Mem → Prop) : Array Value → State → Outcome → State → Prop := fun _ st oc t => (∃ (r : Option XV) (μ' : Mem), oc = .returned (r.map (cv G)) ∧ okr r ∧ Post r μ' ∧ XU G μ' t) ∧ va_F (xA G) st t
def XMet (l : Launch) (G : XG) (y : MethodName) (cc : ByteArray) (mL : Nat) (ret : Option FieldType) (d : Nat) (as : List XV) (μ : Mem) (Post : Option XV → Mem → Prop) : Prop :=
  oks as → Met l y (Cond.code y cc mL ret :: WA) (xr d) (va_Pc (as.map (cv G)) (fun U => XU G μ U)) (xQ G Post) 0 0 (xA G)
section XCALLS
variable {G : XG} {A : Nat → Prop} {nL : Nat} {p : Program} {l : Launch} {e : Env} {R : Room} {s : State} {m : MethodId} {args : Array Value} {below : List Frame} {meth : Method} {c : Code} {cs sl : Nat} {Q : State → Prop} {pc : Nat} {L : List (Option XV)} {st : List XV} {μ : Mem} {own : String} {cc : ByteArray}
theorem xj_iret (E : XE G (xA G) own cc nL p s m args c) {Post : Option XV → Mem → Prop} {x : Int32} (hr : meth.sig.returnType = some .int) (hlk : meth.locks = false) (hd : decode cc pc = .ok (.ireturn, 1)) (hp : Post (some (.inl x)) μ) : XJ G (xA G) nL p l e R s m args below meth c 0 0 (MQ below (xQ G Post) args s 0 0 (xA G)) pc L [.inl x] μ :=
  fun ls H locs ho hol hl hP hS => W.iret E.1 E.2.1 hr (fun t ht hW => ⟨⟨some (.inl x), μ, rfl, trivial, hp, by rw [ht]; exact hP, va_K.moved hW.alike E.2.2.2.2.2.1⟩, hS.F ht⟩) hS.2.2 hd hlk
theorem xj_zret (E : XE G (xA G) own cc nL p s m args c) {Post : Option XV → Mem → Prop} {x : Int32} (hr : meth.sig.returnType = some .boolean) (hlk : meth.locks = false) (hx : x = 0 ∨ x = 1) (hd : decode cc pc = .ok (.ireturn, 1)) (hp : Post (some (.inl x)) μ) : XJ G (xA G) nL p l e R s m args below meth c 0 0 (MQ below (xQ G Post) args s 0 0 (xA G)) pc L [.inl x] μ :=
  fun ls H locs ho hol hl hP hS => W.zret E.1 E.2.1 hr (narrow_z hx).1 (fun t ht hW => ⟨⟨some (.inl x), μ, rfl, trivial, hp, by rw [ht]; exact hP, va_K.moved hW.alike E.2.2.2.2.2.1⟩, hS.F ht⟩) hS.2.2 hd hlk
theorem xj_vret (E : XE G (xA G) own cc nL p s m args c) {Post : Option XV → Mem → Prop} (hr : meth.sig.returnType = none) (hlk : meth.locks = false) (hd : decode cc pc = .ok (.return_, 1)) (hp : Post none μ) : XJ G (xA G) nL p l e R s m args below meth c 0 0 (MQ below (xQ G Post) args s 0 0 (xA G)) pc L [] μ :=
  fun ls H locs ho hol hl hP hS => W.vret E.1 E.2.1 hr (fun t ht hW => ⟨⟨none, μ, rfl, trivial, hp, by rw [ht]; exact hP, va_K.moved hW.alike E.2.2.2.2.2.1⟩, hS.F ht⟩) hS.2.2 hd hlk
theorem xj_aret (E : XE G (xA G) own cc nL p s m args c) {Post : Option XV → Mem → Prop} {q : Nat × Nat} {C : String} (hr : meth.sig.returnType = some (.object C)) (hlk : meth.locks = false) (hd : decode cc pc = .ok (.areturn, 1)) (hp : Post (some (.inr q)) μ) : XJ G (xA G) nL p l e R s m args below meth c 0 0 (MQ below (xQ G Post) args s 0 0 (xA G)) pc L [.inr q] μ :=
  fun ls H locs ho hol hl hP hS => W.aret E.1 E.2.1 hr (Or.inl ⟨C, rfl⟩) (Or.inr ⟨_, rfl⟩) (fun t ht hW => ⟨⟨some (.inr q), μ, rfl, ho.hd, hp, by rw [ht]; exact hP, va_K.moved hW.alike E.2.2.2.2.2.1⟩, hS.F ht⟩) hS.2.2 hd hlk
/-- a method's contract out of its walk -/
theorem xj_met {y : MethodName} {mL d : Nat} {ret : Option FieldType} {as : List XV} {Post : Option XV → Mem → Prop} (hy : plainName y.cls = true) (hI : XI G) (hm : as.length ≤ mL)
    (body : ∀ (p : Program) (e : Env) (s : State) (m : MethodId) (args : Array Value) (below : List Frame) (meth : Method) (c : Code), XE G (xA G) y.cls cc mL p s m args c → meth.sig.returnType = ret → meth.locks = false → XJ G (xA G) mL p l e (xr d) s m args below meth c 0 0 (MQ below (xQ G Post) args s 0 0 (xA G)) 0 (as.map some ++ List.replicate (mL - as.length) none) [] μ) : XMet l G y cc mL ret d as μ Post := by
  intro ho
  refine Met.ofW (cc := cc) (maxL := mL) (ret := ret) hy rfl ?_
  intro p e s m args below meth c s₁ B hml hv
  obtain ⟨rfl, hP, hK⟩ := hv
  have hts := atoms_spec (ws := Cond.code y cc mL ret :: WA) B.pre
  have hE : XE G (xA G) y.cls cc mL p s m (as.map (cv G)).toArray c := ⟨B.exec, B.bytes, hml, findClass_of_methodNamed B.named, fun w hw => hts w (List.mem_cons_of_mem _ hw), hK, hI, fun _ h => h⟩
  rw [entry_eq m (as.map (cv G)) (fun v hv => by obtain ⟨w, -, rfl⟩ := List.mem_map.mp hv; exact cv_cat G w) mL]
  generalize hls : ((as.map (cv G)).map Slot.val ++ List.replicate (mL - (as.map (cv G)).length) Slot.unset).toArray = ls
  have hget : ∀ k : Nat, ls[k]? = ((as.map (cv G)).map Slot.val ++ List.replicate (mL - (as.map (cv G)).length) Slot.unset)[k]? := fun k => by rw [← hls]; simp
  have hcase : ∀ (k : Nat) (x : Slot), ls[k]? = some x → (∃ v, as[k]? = some v ∧ x = .val (cv G v)) ∨ x = .unset := by
    intro k x h
    rw [hget] at h
    by_cases hk : k < as.length
    · rw [List.getElem?_append_left (by simpa using hk)] at h
      simp only [List.getElem?_map] at h
      cases e1 : as[k]? with
      | none => rw [e1] at h; cases h
      | some v => rw [e1] at h; cases h; exact Or.inl ⟨v, rfl, rfl⟩
    · rw [List.getElem?_append_right (by simp; omega)] at h
      exact Or.inr (List.eq_of_mem_replicate (List.mem_of_getElem? h))
  have hlv : xlv G ls mL (as.map some ++ List.replicate (mL - as.length) none) := by
    refine ⟨by rw [← hls]; simp; omega, by simp; omega, ⟨fun i v h h2 => ?_, fun i h => ?_⟩, fun k v h => ?_⟩
    · rcases hcase i _ h with ⟨w, -, hw⟩ | hw
      · cases hw
        rw [cv_cat] at h2
        omega
      · cases hw
    · rcases hcase i _ h with ⟨w, -, hw⟩ | hw <;> cases hw
    · rw [hget]
      by_cases hk : k < as.length
      · rw [List.getElem?_append_left (by simpa using hk)] at h ⊢
        simp only [List.getElem?_map] at h ⊢
        cases e1 : as[k]? with
        | none => rw [e1] at h; cases h
        | some w => rw [e1] at h; simp at h; subst h; rfl
      · rw [List.getElem?_append_right (by simp; omega)] at h
        have := List.eq_of_mem_replicate (List.mem_of_getElem? h)
        cases this
  exact body p e s m _ below meth c hE B.returns B.notSynchronized ls s.heap [] (fun v hv => by cases hv) (fun v hv => by
    rcases List.mem_append.mp hv with h | h
    · obtain ⟨w, hw, e1⟩ := List.mem_map.mp h
      cases e1
      exact ho _ hw
    · have := List.eq_of_mem_replicate h
      cases this) hlv hP va_S.rf
theorem WA_code {y : MethodName} {cc : ByteArray} {mL : Nat} {ret : Option FieldType} (h : Cond.code y cc mL ret ∈ WA) : GoodIn WA (Cond.code y cc mL ret :: WA) := fun w hw => by
  rcases List.mem_cons.mp hw with rfl | hw
  · exact ⟨h, (WA_good _ h).2⟩
  · exact WA_good w hw
theorem xcat (G : XG) (st : List XV) (h : st.length ≤ 8) : ((st.map (cv G)).map fun v => v.category).sum ≤ 8 := by
  have : ((st.map (cv G)).map fun v => v.category) = List.replicate st.length 1 := by
    apply List.ext_getElem?
    intro k
    by_cases hk : k < st.length
    · simp [List.getElem?_map, List.getElem?_eq_getElem hk, cv_cat, List.getElem?_replicate, hk]
    · rw [List.getElem?_eq_none (by simp; omega), List.getElem?_eq_none (by simp; omega)]
  rw [this]
  simp
  exact h
theorem xj_callB {y : MethodName} {cc' : ByteArray} {mL' idx n d' : Nat} {ret' : Option FieldType} (E : XE G A own cc nL p s m args c) (hw : XCw own idx y cc' mL' ret' n) (hR : d' + 1 ≤ R.frames ∧ 40 * d' + 40 ≤ R.locals) : CallB R s args own idx y cc' mL' ret' (Cond.code y cc' mL' ret' :: WA) (xr d') 0 0 n :=
  callB_of n E.2.2.2.2.1 (WA_code hw.2.1) rfl rfl rfl (E.2.2.2.2.1 _ hw.2.2.1) (E.2.2.2.2.1 _ hw.1) hw.2.2.2.1 ⟨hR.1, by have := hw.2.2.2.2; show 8 + (mL' + 11) + 40 * d' ≤ R.locals; omega⟩
theorem xj_blind {as : List XV} : FrameBlind (va_Pc (as.map (cv G)) (fun U => XU G μ U)) := fun a U g mk q => by
  obtain ⟨q0, qP, qK⟩ := q
  exact ⟨q0, qP, va_K.moved (u := U) (U := U.calling g mk a) (Vm.Alike.refl U.vm) qK⟩
/-- behind a call -/
theorem xj_behind {as : List XV} {Post : Option XV → Mem → Prop} {H : Heap} {locs : List Loc} {ls : Array Slot} {stk : List Value} (E : XE G A own cc nL p s m args c) (hr : va_Run p l e R s m args below meth c H locs cs sl 0 0 (F0 m pc ls stk) (st.map (cv G)) (xQ G Post (as.map (cv G)).toArray) (xA G)) (ho : oks st) (hol : okl L) (hl : xlv G ls nL L) (hS : va_S A s.heap H locs) (kk : ∀ r μ', okr r → Post r μ' → XJ G A nL p l e R s m args below meth c cs sl Q (pc + 3) L (r.toList ++ st) μ') : W p l e R s m args below meth c H locs cs sl Q (F0 m pc ls stk) := by
  intro T hT X
  obtain ⟨v, st₀, t, T', L', h0, X', hL, e1, e2, ⟨⟨r, μ', hv, hor, hp, hP', hK'⟩, hz, hk⟩, stp⟩ := hr T hT X
  have hvv : v = r.map (cv G) := by cases hv; rfl
  subst hvv
  rw [h0] at hz hk
  have hS' : va_S A s.heap T'.heap (locs ++ L') := ⟨Nat.le_trans hS.1 (by rw [e1]; exact hz), fun q h1 h2 => by rw [e1, hk q (Nat.lt_of_lt_of_le h1 hS.1) (fun z => h2 (E.2.2.2.2.2.2.2 q z))]; exact hS.2.1 q h1 h2, fun q hq => by
      rcases List.mem_append.mp hq with h | h
      · exact hS.2.2 q h
      · exact E.2.2.2.2.2.2.2 _ (hL q h)⟩
  obtain ⟨t2, a1, b1⟩ := kk r μ' hor hp ls T'.heap (locs ++ L') (fun w hw => by
    rcases List.mem_append.mp hw with h | h
    · cases r with
      | none => cases h
      | some v => simp at h; subst h; exact hor
    · exact ho w h) hol hl (by rw [e1]; exact hP') hS' T' rfl X'
  refine ⟨t2, stp t2 ?_, b1⟩
  have : (r.map (cv G)).toList ++ st.map (cv G) = (r.toList ++ st).map (cv G) := by cases r <;> rfl
  rw [this]
  exact a1
theorem xj_callV {y : MethodName} {cc' : ByteArray} {mL' idx n d' f i : Nat} {ret' : Option FieldType} {as stk : List XV} {Post : Option XV → Mem → Prop} {T : u_T} {N : Nat} (E : XE G A own cc nL p s m args c) (hM : XMet l G y cc' mL' ret' d' (.inr (f, i) :: as) μ Post) (hw : XCw own idx y cc' mL' ret' n) (hv : XCv y) (hk : xkd f = 0 ∧ f ≠ 99) (hcl : vwCl[xci f]? = some (y.cls, T, N)) (hst : stk = as.reverse ++ .inr (f, i) :: st) (hn : as.length = n) (hR : d' + 1 ≤ R.frames ∧ 40 * d' + 40 ≤ R.locals) (hlen : st.length ≤ 8) (hd : decode cc pc = .ok (.invokevirtual idx, 3))
    (hcs : cs + 0 ≤ R.cells ∧ sl + 0 ≤ R.slots) (kk : ∀ r μ', okr r → Post r μ' → XJ G A nL p l e R s m args below meth c cs sl Q (pc + 3) L (r.toList ++ st) μ') : XJ G A nL p l e R s m args below meth c cs sl Q pc L stk μ := by
  subst hst
  intro ls H locs ho hol hl hP hS
  have hoa : oks (.inr (f, i) :: as) := fun v hv => ho v (by
    rcases List.mem_cons.mp hv with rfl | h
    · exact List.mem_append_right _ List.mem_cons_self
    · exact List.mem_append_left _ (List.mem_reverse.mpr h))
  have hos : oks st := fun v hv => ho v (List.mem_append_right _ (List.mem_cons_of_mem _ hv))
  have hi := okv_at hoa.hd hk.2
  have hK := E.2.2.2.2.2.1
  refine xj_behind (as := .inr (f, i) :: as) E (va_runV (nL := nL) (As := as.map (cv G)) (rest := st.map (cv G)) (b := G.2.2.1 f i) ⟨E.1, E.2.1, E.2.2.1, E.2.2.2.1, E.2.2.2.2.1⟩ (hM hoa) ⟨xj_callB E hw hR, E.2.2.2.2.1 _ hv.1, E.2.2.2.2.1 _ hv.2⟩ ⟨xj_blind (as := .inr (f, i) :: as), va_recv (q0 := 0) hK (hP.one hi (xc0 hk.1)) hcl rfl, fun U hU hW => ⟨rfl, by rw [hU]; exact hP, va_K.moved hW.alike hK⟩⟩ rfl (by simpa using hn) hl.1 (by simp [cv]) (lv_room (xcat G st hlen)) hd hcs) hos hol hl hS kk
theorem xj_callS {y : MethodName} {cc' : ByteArray} {mL' idx n d' : Nat} {ret' : Option FieldType} {as stk : List XV} {Post : Option XV → Mem → Prop} (E : XE G A own cc nL p s m args c) (hM : XMet l G y cc' mL' ret' d' as μ Post) (hw : XCw own idx y cc' mL' ret' n) (hv : Cond.static y ∈ WA) (hst : stk = as.reverse ++ st) (hn : as.length = n) (hR : d' + 1 ≤ R.frames ∧ 40 * d' + 40 ≤ R.locals) (hlen : st.length ≤ 8) (hd : decode cc pc = .ok (.invokestatic idx, 3))
    (hcs : cs + 0 ≤ R.cells ∧ sl + 0 ≤ R.slots) (kk : ∀ r μ', okr r → Post r μ' → XJ G A nL p l e R s m args below meth c cs sl Q (pc + 3) L (r.toList ++ st) μ') : XJ G A nL p l e R s m args below meth c cs sl Q pc L stk μ := by
  subst hst
  intro ls H locs ho hol hl hP hS
  have hoa : oks as := fun v hv => ho v (List.mem_append_left _ (List.mem_reverse.mpr hv))
  have hos : oks st := fun v hv => ho v (List.mem_append_right _ hv)
  have hK := E.2.2.2.2.2.1
  refine xj_behind (as := as) E (va_runS (nL := nL) (As := as.map (cv G)) (rest := st.map (cv G)) ⟨E.1, E.2.1, E.2.2.1, E.2.2.2.1, E.2.2.2.2.1⟩ (hM hoa) ⟨xj_callB E hw hR, E.2.2.2.2.1 _ hv⟩ ⟨xj_blind (as := as), fun U hU hW => ⟨rfl, by rw [hU]; exact hP, va_K.moved hW.alike hK⟩⟩ rfl (by simpa using hn) hl.1 (by simp) (lv_room (xcat G st hlen)) hd hcs) hos hol hl hS kk
end XCALLS
