/-! MAKING: the cells come one behind another; ord is a place's number in the order of making -/
def op (q : Nat) : Nat := if q % 5 = 0 then 46 + 27 * (q / 5) + 1 else 46 + 27 * (q / 5) + 7 + 5 * (q % 5 - 1)
def ob (b : Nat) : Nat := if b = 0 then 4 else if b < 9 then 4 * b + 5 else op (b - 9) + 1
def ord : Nat → Nat → Nat
  | 0, _ => 0
  | 1, _ => 1
  | 2, _ => 2
  | 3, _ => 3
  | 4, i => ob i
  | 5, i => ob i + 1
  | 6, i => ob i + 2
  | 7, _ => 7
  | 8, i => 8 + 4 * i
  | 9, _ => 40
  | 10, i => 41 + i
  | 11, _ => 45
  | 12, i => 46 + 27 * i
  | 13, i => op i
  | 14, i => op i + 4
  | 15, i => 46 + 27 * i + 6
  | 16, i => 154 + 3 * i
  | 17, i => 154 + 3 * i + 1
  | 18, i => 154 + 3 * i + 2
  | 19, _ => 160
  | 20, _ => 161
  | 21, _ => 162
  | 22, _ => 163
  | 23, _ => 164
  | 24, _ => 165
  | 32, _ => 166
  | 34, _ => 167
  | 35, _ => 168
  | 36, _ => 169
  | 38, _ => 170
  | 39, _ => 171
  | 40, _ => 172
  | 42, _ => 173
  | 43, _ => 174
  | 44, _ => 175
  | 45, _ => 176
  | 47, _ => 177
  | 48, _ => 178
  | 49, _ => 179
  | 50, _ => 180
  | 51, _ => 181
  | 52, _ => 182
  | 53, _ => 183
  | 55, _ => 184
  | 56, _ => 185
  | 58, _ => 186
  | 59, _ => 187
  | 61, _ => 188
  | 62, _ => 189
  | 63, _ => 190
  | 64, _ => 191
  | 66, _ => 192
  | _, _ => 1000
def ordT : List (Nat × Nat) := [(0, 0), (1, 0), (2, 0), (3, 0), (4, 0), (5, 0), (6, 0), (7, 0), (8, 0), (4, 1), (5, 1), (6, 1), (8, 1), (4, 2), (5, 2), (6, 2), (8, 2), (4, 3), (5, 3), (6, 3), (8, 3), (4, 4), (5, 4), (6, 4), (8, 4), (4, 5), (5, 5), (6, 5), (8, 5), (4, 6), (5, 6), (6, 6), (8, 6), (4, 7), (5, 7), (6, 7), (8, 7), (4, 8), (5, 8), (6, 8), (9, 0), (10, 0), (10, 1), (10, 2), (10, 3), (11, 0), (12, 0), (13, 0), (4, 9), (5, 9), (6, 9), (14, 0), (15, 0), (13, 1), (4, 10), (5, 10), (6, 10), (14, 1), (13, 2), (4, 11), (5, 11), (6, 11), (14, 2), (13, 3), (4, 12), (5, 12), (6, 12), (14, 3), (13, 4), (4, 13), (5, 13), (6, 13), (14, 4), (12, 1), (13, 5), (4, 14), (5, 14), (6, 14), (14, 5), (15, 1), (13, 6), (4, 15), (5, 15), (6, 15), (14, 6), (13, 7), (4, 16), (5, 16), (6, 16), (14, 7), (13, 8), (4, 17), (5, 17), (6, 17), (14, 8), (13, 9), (4, 18), (5, 18), (6, 18), (14, 9), (12, 2), (13, 10), (4, 19), (5, 19), (6, 19), (14, 10), (15, 2), (13, 11), (4, 20), (5, 20), (6, 20), (14, 11), (13, 12), (4, 21), (5, 21), (6, 21), (14, 12), (13, 13), (4, 22), (5, 22), (6, 22), (14, 13), (13, 14), (4, 23), (5, 23), (6, 23), (14, 14), (12, 3), (13, 15), (4, 24), (5, 24), (6, 24), (14, 15), (15, 3), (13, 16), (4, 25), (5, 25), (6, 25), (14, 16), (13, 17), (4, 26), (5, 26), (6, 26), (14, 17), (13, 18), (4, 27), (5, 27), (6, 27), (14, 18), (13, 19), (4, 28), (5, 28), (6, 28), (14, 19), (16, 0), (17, 0), (18, 0), (16, 1), (17, 1), (18, 1), (19, 0), (20, 0), (21, 0), (22, 0), (23, 0), (24, 0), (32, 0), (34, 0), (35, 0), (36, 0), (38, 0), (39, 0), (40, 0), (42, 0), (43, 0), (44, 0), (45, 0), (47, 0), (48, 0), (49, 0), (50, 0), (51, 0), (52, 0), (53, 0), (55, 0), (56, 0), (58, 0), (59, 0), (61, 0), (62, 0), (63, 0), (64, 0), (66, 0)]
def inv (o : Nat) : Nat × Nat := (ordT[o]?).getD (0, 0)
theorem inv_ord : ∀ f, f < 67 → ∀ i, i < xcn f → inv (ord f i) = (f, i) := by decide +kernel
theorem xcn_lt {f i : Nat} (h : i < xcn f) : f < 67 := by
  unfold xcn at h
  split at h <;> omega
theorem ord_lt : ∀ f, f < 67 → ∀ i, i < xcn f → ord f i < 193 := by decide +kernel
def dfl (f : Nat) : va_E := .inr (xci f, (List.range (xns f)).map fun j => match xsl f j with | none => Value.int 0 | some _ => Value.null)
def mu0 : Mem := fun _ _ _ => 0
def FC (G : XG) (o : Nat) : va_E := xc G mu0 (inv o).1 (inv o).2
theorem FC_at {G : XG} {f i : Nat} (hi : i < xcn f) : FC G (ord f i) = xc G mu0 f i := by unfold FC; rw [inv_ord f (xcn_lt hi) i hi]
theorem FC_e {G : XG} {f i n : Nat} (hi : i < xcn f) (h : ord f i = n) : FC G n = xc G mu0 f i := by rw [← h]; exact FC_at hi
def nov (G : XG) : List (Nat × va_E) → Nat → va_E
  | [], o => FC G o
  | q :: r, o => if o = q.1 then q.2 else nov G r o
theorem nov_p {G : XG} {q : Nat × va_E} {r : List (Nat × va_E)} {o : Nat} (h : o = q.1) : nov G (q :: r) o = q.2 := if_pos h
theorem nov1 {G : XG} {k o : Nat} {x : va_E} (h : o ≠ k) : nov G [(k, x)] o = FC G o := if_neg h
theorem nov2 {G : XG} {k k' o : Nat} {x x' : va_E} (h : o ≠ k) (h' : o ≠ k') : nov G [(k, x), (k', x')] o = FC G o := (if_neg h).trans (if_neg h')
theorem nov_n {G : XG} {q : Nat × va_E} {r : List (Nat × va_E)} {o : Nat} (h : ¬ o = q.1) : nov G (q :: r) o = nov G r o := if_neg h
def NH (G : XG) (B lo n : Nat) (ov : List (Nat × va_E)) (H : Heap) : Prop := H.size = B + n ∧ ∀ o, lo ≤ o → o < n → va_at (G.1, G.2.1) vwCl (B + o, nov G ov o) H
def GA (G : XG) (B : Nat) : Prop := ∀ f i, i < xcn f → G.2.2.1 f i = B + ord f i
def NWm : List (String × Nat × MethodName × String) := [("BoundChains", 9, y_X0_init, "BoundChains"), ("BoundChains", 22, y_X6_init, "BoundChains"), ("BoundChains", 29, y_X5_init, "BoundChains"), ("BoundChains$Component", 11, y_X8_init, "BoundChains"), ("BoundChains", 39, y_X3_init, "BoundChains"), ("BoundChains", 49, y_X2_init, "BoundChains"), ("BoundChains", 56, y_X7_init, "BoundChains")]
def NWa : List String := ["BoundChains$Interceptor", "BoundChains$Decorator", "BoundChains$Component", "BoundChains$Place"]
def NW (U : State) : Prop := (∀ q ∈ NWm, va_Nw (.methodLinkNest q.1 q.2.1 q.2.2.1 q.2.2.2) U) ∧ ∀ C ∈ NWa, va_AO C U
theorem NW.warm {s U : State} (h : NW s) (hW : s.WarmedH U.vm) : NW U := ⟨fun q hq => (h.1 q hq).warmM hW, fun C hC => (h.2 C hC).moved hW.alike⟩
theorem NW.same {s U : State} (h : NW s) (hv : s.vm = U.vm) : NW U := ⟨fun q hq => (h.1 q hq).same rfl hv, fun C hC => (h.2 C hC).moved (by rw [hv]; exact Vm.Alike.refl _)⟩
def NE (G : XG) (B lo : Nat) (A : Nat → Prop) (own : String) (cc : ByteArray) (nL : Nat) (p : Program) (s : State) (m : MethodId) (args : Array Value) (c : Code) : Prop :=
  p.tables.exec = Jvm.exec ∧ c.code = cc ∧ c.maxLocals = nL ∧ s.vm.findClass own = some m.cls ∧ (∀ w ∈ WA, w.before args s = true) ∧ va_K (G.1, G.2.1) vwCl (xty G) s ∧ GA G B ∧ NW s ∧ ∀ q, B + lo ≤ q → A q
def NJ (G : XG) (B lo : Nat) (A : Nat → Prop) (nL : Nat) (p : Program) (l : Launch) (e : Env) (R : Room) (s : State) (m : MethodId) (args : Array Value) (below : List Frame) (meth : Method) (c : Code) (cs sl : Nat) (Q : State → Prop) (pc : Nat) (L : List (Option XV)) (st : List XV) (n : Nat) (ov : List (Nat × va_E)) : Prop :=
  ∀ (ls : Array Slot) (H : Heap) (locs : List Loc), xlv G ls nL L → NH G B lo n ov H → va_S A s.heap H locs → W p l e R s m args below meth c H locs cs sl Q (F0 m pc ls (st.map (cv G)))
theorem WA_int : Cond.arrayClass .int ∈ WA := wa_t 49 (by decide +kernel) rfl
theorem WA_bool : Cond.arrayClass .boolean ∈ WA := wa_t 48 (by decide +kernel) rfl
theorem WA_oi : Cond.instanceMethod objectInit ∈ WA := wa_t 18 (by decide +kernel) rfl
theorem WA_oc : Cond.code objectInit ⟨#[0xb1]⟩ 1 none ∈ WA := wa_t 19 (by decide +kernel) rfl
section NROWS
variable {G : XG} {B lo : Nat} {A : Nat → Prop} {nL : Nat} {p : Program} {l : Launch} {e : Env} {R : Room} {s : State} {m : MethodId} {args : Array Value} {below : List Frame} {meth : Method} {c : Code} {cs sl : Nat} {Q : State → Prop} {pc : Nat} {L : List (Option XV)} {st : List XV} {n : Nat} {ov : List (Nat × va_E)} {own : String} {cc : ByteArray}
theorem nj_loc {L' : List (Option XV)} (h : L = L') (kk : NJ G B lo A nL p l e R s m args below meth c cs sl Q pc L' st n ov) : NJ G B lo A nL p l e R s m args below meth c cs sl Q pc L st n ov := h ▸ kk
theorem nj_n {n' : Nat} (h : n = n') (kk : NJ G B lo A nL p l e R s m args below meth c cs sl Q pc L st n' ov) : NJ G B lo A nL p l e R s m args below meth c cs sl Q pc L st n ov := h ▸ kk
theorem nj_ov {ov' : List (Nat × va_E)} (h : ∀ o H, lo ≤ o → o < n → va_at (G.1, G.2.1) vwCl (B + o, nov G ov o) H → va_at (G.1, G.2.1) vwCl (B + o, nov G ov' o) H) (kk : NJ G B lo A nL p l e R s m args below meth c cs sl Q pc L st n ov') : NJ G B lo A nL p l e R s m args below meth c cs sl Q pc L st n ov :=
  fun ls H locs hl hN hS => kk ls H locs hl ⟨hN.1, fun o h1 h2 => h o H h1 h2 (hN.2 o h1 h2)⟩ hS
theorem nj_widen {k1 k2 : Nat} (h1 : cs ≤ k1) (h2 : sl ≤ k2) (kk : NJ G B lo A nL p l e R s m args below meth c k1 k2 Q pc L st n ov) : NJ G B lo A nL p l e R s m args below meth c cs sl Q pc L st n ov := fun ls H locs hl hN hS => W.widen h1 h2 (kk ls H locs hl hN hS)
theorem nj_iconst (E : NE G B lo A own cc nL p s m args c) {k : Int} {v : Int32} (hd : decode cc pc = .ok (.iconst k, 1)) (hv : Int32.ofInt k = v) (kk : NJ G B lo A nL p l e R s m args below meth c cs sl Q (pc + 1) L (.inl v :: st) n ov) : NJ G B lo A nL p l e R s m args below meth c cs sl Q pc L st n ov :=
  fun ls H locs hl hN hS => lv_iconst E.1 E.2.1 hd hv (kk ls H locs hl hN hS)
theorem nj_bipush (E : NE G B lo A own cc nL p s m args c) {k : Int} {v : Int32} (hd : decode cc pc = .ok (.bipush k, 2)) (hv : (Int8.ofInt k).toInt32 = v) (kk : NJ G B lo A nL p l e R s m args below meth c cs sl Q (pc + 2) L (.inl v :: st) n ov) : NJ G B lo A nL p l e R s m args below meth c cs sl Q pc L st n ov :=
  fun ls H locs hl hN hS => lv_bipush E.1 E.2.1 hd hv (kk ls H locs hl hN hS)
theorem nj_iload_n (E : NE G B lo A own cc nL p s m args c) {k : Fin 4} {x : Int32} (hd : decode cc pc = .ok (.iload_n k, 1)) (hL : L[(k : Nat)]? = some (some (.inl x))) (kk : NJ G B lo A nL p l e R s m args below meth c cs sl Q (pc + 1) L (.inl x :: st) n ov) : NJ G B lo A nL p l e R s m args below meth c cs sl Q pc L st n ov :=
  fun ls H locs hl hN hS => lv_iload_n E.1 E.2.1 hd rfl (hl.2.2.2 _ _ hL) (kk ls H locs hl hN hS)
theorem nj_aload_n (E : NE G B lo A own cc nL p s m args c) {k : Fin 4} {q : Nat × Nat} (hd : decode cc pc = .ok (.aload_n k, 1)) (hL : L[(k : Nat)]? = some (some (.inr q))) (kk : NJ G B lo A nL p l e R s m args below meth c cs sl Q (pc + 1) L (.inr q :: st) n ov) : NJ G B lo A nL p l e R s m args below meth c cs sl Q pc L st n ov :=
  fun ls H locs hl hN hS => lv_aload_n E.1 E.2.1 hd rfl (hl.2.2.2 _ _ hL) (kk ls H locs hl hN hS)
theorem nj_istore_n (E : NE G B lo A own cc nL p s m args c) {k : Fin 4} {x : Int32} {L' : List (Option XV)} (hd : decode cc pc = .ok (.istore_n k, 1)) (hn : (k : Nat) < nL) (hL : L.set k (some (.inl x)) = L') (kk : NJ G B lo A nL p l e R s m args below meth c cs sl Q (pc + 1) L' st n ov) : NJ G B lo A nL p l e R s m args below meth c cs sl Q pc L (.inl x :: st) n ov := by
  subst hL
  exact fun ls H locs hl hN hS => lv_istore_n E.1 E.2.1 hd rfl hl.has hn rfl (fun ls' h' => kk ls' H locs (hl.stored hn h') hN hS)
theorem nj_astore_n (E : NE G B lo A own cc nL p s m args c) {k : Fin 4} {q : Nat × Nat} {L' : List (Option XV)} (hd : decode cc pc = .ok (.astore_n k, 1)) (hn : (k : Nat) < nL) (hL : L.set k (some (.inr q)) = L') (kk : NJ G B lo A nL p l e R s m args below meth c cs sl Q (pc + 1) L' st n ov) : NJ G B lo A nL p l e R s m args below meth c cs sl Q pc L (.inr q :: st) n ov := by
  subst hL
  exact fun ls H locs hl hN hS => lv_astore_n E.1 E.2.1 hd rfl hl.has hn rfl (fun ls' h' => kk ls' H locs (hl.stored hn h') hN hS)
theorem nj_iinc (E : NE G B lo A own cc nL p s m args c) {k : Nat} {j : Int} {x v : Int32} {L' : List (Option XV)} (hd : decode cc pc = .ok (.iinc k j, 3)) (hx : L[k]? = some (some (.inl x))) (hv : x + Int32.ofInt j = v) (hL : L.set k (some (.inl v)) = L') (kk : NJ G B lo A nL p l e R s m args below meth c cs sl Q (pc + 3) L' st n ov) : NJ G B lo A nL p l e R s m args below meth c cs sl Q pc L st n ov := by
  subst hL
  intro ls H locs hl hN hS
  have hn : k < nL := by rw [← hl.2.1]; exact (List.getElem?_eq_some_iff.mp hx).1
  have hm : ((k, Value.int x) : Nat × Value) ∈ xll G L := xll_mem.mpr ⟨.inl x, hx, rfl⟩
  obtain ⟨q, hq⟩ := List.getElem?_of_mem hm
  exact lv_iinc E.1 E.2.1 hd hl.has hq hv hn rfl (fun ls' h' => kk ls' H locs (hl.stored (v := .inl v) hn h') hN hS)
theorem nj_dup (E : NE G B lo A own cc nL p s m args c) {v : XV} (hd : decode cc pc = .ok (.dup, 1)) (kk : NJ G B lo A nL p l e R s m args below meth c cs sl Q (pc + 1) L (v :: v :: st) n ov) : NJ G B lo A nL p l e R s m args below meth c cs sl Q pc L (v :: st) n ov :=
  fun ls H locs hl hN hS => lv_dup E.1 E.2.1 hd (cv_cat G v) (kk ls H locs hl hN hS)
theorem nj_goto (E : NE G B lo A own cc nL p s m args c) {off : Int} {tgt : Nat} (hd : decode cc pc = .ok (.goto off, 3)) (ht : (pc : Int) + off = (tgt : Int)) (kk : NJ G B lo A nL p l e R s m args below meth c cs sl Q tgt L st n ov) : NJ G B lo A nL p l e R s m args below meth c cs sl Q pc L st n ov :=
  fun ls H locs hl hN hS => lv_goto E.1 E.2.1 hd ht (kk ls H locs hl hN hS)
theorem nj_icmp_ge (E : NE G B lo A own cc nL p s m args c) {x y : Int32} {off : Int} {tgt : Nat} (hd : decode cc pc = .ok (.if_icmp .ge off, 3)) (ht : (pc : Int) + off = (tgt : Int)) (kt : y ≤ x → NJ G B lo A nL p l e R s m args below meth c cs sl Q tgt L st n ov) (kf : ¬ y ≤ x → NJ G B lo A nL p l e R s m args below meth c cs sl Q (pc + 3) L st n ov) : NJ G B lo A nL p l e R s m args below meth c cs sl Q pc L (.inl y :: .inl x :: st) n ov :=
  fun ls H locs hl hN hS => lv_icmp_ge E.1 E.2.1 hd ht (fun h => kt h ls H locs hl hN hS) (fun h => kf h ls H locs hl hN hS)
theorem NH.push {H H1 : Heap} (h : NH G B lo n ov H) (z1 : H1.size = B + n + 1) (o1 : ∀ q, q < B + n → H1[q]? = H[q]?) {ov' : List (Nat × va_E)} (he : ∀ o, o < n → nov G ov' o = nov G ov o) (hn : va_at (G.1, G.2.1) vwCl (B + n, nov G ov' n) H1) : NH G B lo (n + 1) ov' H1 := by
  refine ⟨by rw [z1]; omega, fun o h1 h2 => ?_⟩
  by_cases e : o = n
  · subst e
    exact hn
  · rw [he o (by omega)]
    exact (h.2 o h1 (by omega)).kept (o1 _ (by show B + o < B + n; omega))
theorem va_S.push {H H1 : Heap} {locs : List Loc} {k : Nat} (hS : va_S A s.heap H locs) (hz : H.size = k) (z1 : H1.size = k + 1) (o1 : ∀ q, q < k → H1[q]? = H[q]?) : va_S A s.heap H1 locs := ⟨by have := hS.1; omega, fun q a b => (o1 q (by have := hS.1; omega)).trans (hS.2.1 q a b), hS.2.2⟩
theorem nj_new (E : NE G B lo A own cc nL p s m args c) {idx ci f i N : Nat} {C : String} {T : u_T} {ty : Nat → FieldType} {fs : List Value} (hcl : Cond.classLink own idx C ∈ WA) (hins : Cond.instantiable C N ∈ WA) (hini : Cond.initialized C ∈ WA) (hc : vwCl[ci]? = some (C, T, N)) (hws : ∀ w ∈ u_ws C T N, w ∈ WA) (hty : ∀ k, k < N → parseFieldDescriptor (T k).2.2.1 = some (ty k)) (hdf : dfl f = .inr (ci, fs)) (hfs : ∀ j, j < N → defaultValue (ty j) = vp_V fs j) (hi : i < xcn f) (ho : ord f i = n) (hcs : cs + 1 ≤ R.cells) (hsl : sl + N ≤ R.slots) (hd : decode cc pc = .ok (.new idx, 3)) (kk : NJ G B lo A nL p l e R s m args below meth c (cs + 1) (sl + N) Q (pc + 3) L (.inr (f, i) :: st) (ord f i + 1) ((ord f i, dfl f) :: ov)) : NJ G B lo A nL p l e R s m args below meth c cs sl Q pc L st n ov := by
  rw [ho, hdf] at kk
  intro ls H locs hl hN hS
  obtain ⟨h1, h2, h3, h4, hts, hK, hG, hW, hA⟩ := E
  have hKn := hK.1 ci _ hc
  refine W.newcK h1 h2 h4 (hts _ hcl) (hts _ hins) (hts _ hini) rfl hd hcs hsl hKn.2.1 hN.1 fun H1 kC hkC e1 z1 o1 => ?_
  have ha : G.2.2.1 f i = B + n := by rw [hG f i hi, ho]
  have k1 := kk ls H1 locs hl (hN.push z1 o1 (fun o h => nov_n (Nat.ne_of_lt h)) (by rw [nov_p rfl]; exact ⟨_, hc, (u_born ty hts hws hKn hkC e1 hty).to hfs⟩)) (hS.push hN.1 z1 o1)
  have es : ((.inr (f, i) :: st : List XV)).map (cv G) = .ref (B + n) :: st.map (cv G) := by show Value.ref (G.2.2.1 f i) :: _ = _; rw [ha]
  rw [es] at k1
  exact k1
theorem nj_newi (E : NE G B lo A own cc nL p s m args c) {f i N : Nat} {v : Int32} (hL : xln f i = N) (hk : xkd f = 1) (hi : i < xcn f) (ho : ord f i = n) (hv : ¬ v < 0) (hNv : v.toNatClampNeg = N) (hb : N ≤ 1000) (hcs : cs + 1 ≤ R.cells) (hsl : sl + N ≤ R.slots) (hov : nov G ov n = FC G n) (hd : decode cc pc = .ok (.newarray .int, 2)) (kk : NJ G B lo A nL p l e R s m args below meth c (cs + 1) (sl + N) Q (pc + 2) L (.inr (f, i) :: st) (ord f i + 1) ov) : NJ G B lo A nL p l e R s m args below meth c cs sl Q pc L (.inl v :: st) n ov := by
  rw [ho] at kk
  subst hL
  intro ls H locs hl hN hS
  obtain ⟨h1, h2, h3, h4, hts, hK, hG, hW, hA⟩ := E
  refine va_newaK (atype := .int) h1 h2 (hts _ WA_int) rfl hd rfl hv hNv (Nat.le_trans (Nat.mul_le_mul hb (Nat.le_refl _)) (by decide)) hcs hsl hN.1 fun H1 cA e1 z1 o1 hAr hNm => ?_
  have hcA : cA = G.2.2.2 0 := Option.some.inj (hNm.symm.trans (hK.2 0 _ rfl).2)
  subst hcA
  have ha : G.2.2.1 f i = B + n := by rw [hG f i hi, ho]
  have k1 := kk ls H1 locs hl (hN.push z1 o1 (fun o h => rfl) (by rw [hov, FC_e hi ho, xc1 hk]; exact e1)) (hS.push hN.1 z1 o1)
  have es : ((.inr (f, i) :: st : List XV)).map (cv G) = .ref (B + n) :: st.map (cv G) := by show Value.ref (G.2.2.1 f i) :: _ = _; rw [ha]
  rw [es] at k1
  exact k1
theorem nj_newz (E : NE G B lo A own cc nL p s m args c) {f i N : Nat} {v : Int32} (hL : xln f i = N) (hk : xkd f = 2) (hi : i < xcn f) (ho : ord f i = n) (hv : ¬ v < 0) (hNv : v.toNatClampNeg = N) (hb : N ≤ 1000) (hcs : cs + 1 ≤ R.cells) (hsl : sl + N ≤ R.slots) (hov : nov G ov n = FC G n) (hd : decode cc pc = .ok (.newarray .boolean, 2)) (kk : NJ G B lo A nL p l e R s m args below meth c (cs + 1) (sl + N) Q (pc + 2) L (.inr (f, i) :: st) (ord f i + 1) ov) : NJ G B lo A nL p l e R s m args below meth c cs sl Q pc L (.inl v :: st) n ov := by
  rw [ho] at kk
  subst hL
  intro ls H locs hl hN hS
  obtain ⟨h1, h2, h3, h4, hts, hK, hG, hW, hA⟩ := E
  refine va_newaK (atype := .boolean) h1 h2 (hts _ WA_bool) rfl hd rfl hv hNv (Nat.le_trans (Nat.mul_le_mul hb (Nat.le_refl _)) (by decide)) hcs hsl hN.1 fun H1 cA e1 z1 o1 hAr hNm => ?_
  have hcA : cA = G.2.2.2 1 := Option.some.inj (hNm.symm.trans (hK.2 1 _ rfl).2)
  subst hcA
  have ha : G.2.2.1 f i = B + n := by rw [hG f i hi, ho]
  have k1 := kk ls H1 locs hl (hN.push z1 o1 (fun o h => rfl) (by rw [hov, FC_e hi ho, xc2 hk]; exact e1)) (hS.push hN.1 z1 o1)
  have es : ((.inr (f, i) :: st : List XV)).map (cv G) = .ref (B + n) :: st.map (cv G) := by show Value.ref (G.2.2.1 f i) :: _ = _; rw [ha]
  rw [es] at k1
  exact k1
theorem nj_anew (E : NE G B lo A own cc nL p s m args c) {f i idx u N : Nat} {v : Int32} {C : String} (hL : xln f i = N) (hCa : C ∈ NWa) (hu : (xty G)[u + 2]? = some (G.2.2.2 (u + 2), .object C)) (hcl : Cond.classLink own idx C ∈ WA) (hi : i < xcn f) (ho : ord f i = n) (hv : ¬ v < 0) (hNv : v.toNatClampNeg = N) (hb : N ≤ 1000) (hcs : cs + 1 ≤ R.cells) (hsl : sl + N ≤ R.slots) (hd : decode cc pc = .ok (.anewarray idx, 3)) (kk : NJ G B lo A nL p l e R s m args below meth c (cs + 1) (sl + N) Q (pc + 3) L (.inr (f, i) :: st) (ord f i + 1) ((ord f i, .inl (G.2.2.2 (u + 2), N, .inr (.inr (.inr (.inr (fun _ => none)))))) :: ov)) : NJ G B lo A nL p l e R s m args below meth c cs sl Q pc L (.inl v :: st) n ov := by
  rw [ho] at kk
  subst hL
  intro ls H locs hl hN hS
  obtain ⟨h1, h2, h3, h4, hts, hK, hG, hW, hA⟩ := E
  refine W.anew h1 h2 h4 (hts _ hcl) (va_AO.use (hW.2 C hCa)) rfl hd rfl hv (by rw [hNv]; exact Nat.le_trans (Nat.mul_le_mul hb (Nat.le_refl _)) (by decide)) hcs (by rw [hNv]; exact hsl) fun cA kA comp f1 f2 f3 f4 => ?_
  obtain ⟨kA', comp', g1, g2, g3, g4⟩ := (hK.2 (u + 2) _ hu).2
  have hcA : cA = G.2.2.2 (u + 2) := Option.some.inj (f1.symm.trans g4)
  subst hcA
  generalize hH1 : H.push ({ cls := G.2.2.2 (u + 2), slots := Array.replicate v.toNatClampNeg .null, vm := .none } : Cell) = H1
  have z1 : H1.size = B + n + 1 := by rw [← hH1, Array.size_push, hN.1]
  have e1 : H1[B + n]? = some (arrV (G.2.2.2 (u + 2)) v.toNatClampNeg (fun _ => .null)) := by rw [← hH1, ← hN.1, Array.getElem?_push_size, ← arrV_new]
  have o1 : ∀ q : Nat, q < B + n → H1[q]? = H[q]? := fun q hq => by rw [← hH1, Array.getElem?_push, if_neg (Nat.ne_of_lt (by rw [hN.1]; exact hq))]
  have ha : G.2.2.1 f i = B + n := by rw [hG f i hi, ho]
  rw [hNv] at e1 ⊢
  have k1 := kk ls H1 locs hl (hN.push z1 o1 (fun o h => nov_n (Nat.ne_of_lt h)) (by rw [nov_p rfl]; show H1[B + n]? = some (vp_cell _ _); rw [vp_cell_q]; exact e1)) (hS.push hN.1 z1 o1)
  have es : ((.inr (f, i) :: st : List XV)).map (cv G) = .ref (B + n) :: st.map (cv G) := by show Value.ref (G.2.2.1 f i) :: _ = _; rw [ha]
  rw [es] at k1
  rw [hN.1]
  exact k1
theorem NH.put {H H1 : Heap} {o0 : Nat} {ov' : List (Nat × va_E)} (h : NH G B lo n ov H) (z : H1.size = H.size) (oq : ∀ q, q ≠ B + o0 → H1[q]? = H[q]?) (hne : ∀ o, o ≠ o0 → nov G ov' o = nov G ov o) (hn : va_at (G.1, G.2.1) vwCl (B + o0, nov G ov' o0) H1) : NH G B lo n ov' H1 := by
  refine ⟨by rw [z]; exact h.1, fun o h1 h2 => ?_⟩
  by_cases e : o = o0
  · subst e
    exact hn
  · rw [hne o e]
    exact (h.2 o h1 h2).kept (oq _ (by show B + o ≠ B + o0; omega))
theorem nj_putF (E : NE G B lo A own cc nL p s m args c) {idx ci j f0 i0 f' i' o0 N : Nat} {C : String} {T : u_T} {ty : Nat → FieldType} {tj : FieldType} {fs : List Value} {ov' : List (Nat × va_E)} (hin : meth.name = "<init>") (hc : vwCl[ci]? = some (C, T, N)) (hws : ∀ w ∈ u_ws C T N, w ∈ WA) (hty : ∀ k, k < N → parseFieldDescriptor (T k).2.2.1 = some (ty k)) (hnm : ∀ a, a < N → ∀ b, b < N → a ≠ b → (T a).2.1 ≠ (T b).2.1) (hj : j < N) (hlink : Cond.fieldLink own idx (T j).1 (T j).2.1 (T j).2.2.1 ∈ WA) (hfin : (T j).2.2.2 = true) (hdecl : (T j).1 = own) (hd2 : parseFieldDescriptor (T j).2.2.1 = some tj) (htj : ∀ a : Nat, narrow tj (.ref a) = .ref a ∧ fits tj (.ref a) = true) (hl0 : j < fs.length) (hi0 : i0 < xcn f0) (ho : ord f0 i0 = o0) (hlo : lo ≤ o0) (hon : o0 < n) (hov : nov G ov o0 = .inr (ci, fs)) (hov' : nov G ov' o0 = .inr (ci, fs.set j (.ref (G.2.2.1 f' i')))) (hne : ∀ o, o ≠ o0 → nov G ov' o = nov G ov o) (hd : decode cc pc = .ok (.putfield idx, 3)) (kk : NJ G B lo A nL p l e R s m args below meth c cs sl Q (pc + 3) L st n ov') : NJ G B lo A nL p l e R s m args below meth c cs sl Q pc L (.inr (f', i') :: .inr (f0, i0) :: st) n ov := by
  intro ls H locs hl hN hS
  obtain ⟨h1, h2, h3, h4, hts, hK, hG, hW, hA⟩ := E
  have ha : G.2.2.1 f0 i0 = B + o0 := by rw [hG f0 i0 hi0, ho]
  have hap := va_apart (own := own) hts hws ty hty hnm hK hc
  have hat := hN.2 o0 hlo hon
  rw [hov] at hat
  obtain ⟨r, hr1, cell, q1, q2, q3, q4⟩ := hat
  have hr : r = (C, T, N) := Option.some.inj (hr1.symm.trans hc)
  subst hr
  obtain ⟨hSl, hfc, kC, hkC, hkind⟩ := hK.1 ci _ hc
  obtain ⟨cf, kf, fi, f, hi, hsl⟩ := hSl j hj
  have hlay := hts _ (hws _ (u_in_lay hj))
  unfold u_lay at hlay
  rw [if_pos hfin] at hlay
  have hst := (u_facts hfc hkC (u_lays hts hws hj) hi).1
  have hcf : m.cls = cf := by
    obtain ⟨_, _, c', _, _, _, -, -, hf', -, -, -, hown2, -⟩ := Cond.laysFinal_spec hlay
    have e1 : c' = cf := by have := hi.symm.trans hf'; simp at this; exact this.1.symm
    rw [hdecl] at hown2
    rw [← e1]; exact Option.some.inj (h4.symm.trans hown2)
  have h6 := u_fits hfc hkC hkind (Or.inr hlay) hi hd2 (htj (G.2.2.1 f' i')).1 (htj (G.2.2.1 f' i')).2
  have es : ((.inr (f', i') :: .inr (f0, i0) :: st : List XV)).map (cv G) = .ref (G.2.2.1 f' i') :: .ref (B + o0) :: st.map (cv G) := by show _ :: Value.ref (G.2.2.1 f0 i0) :: _ = _; rw [ha]; rfl
  rw [es]
  refine W.putFinK h1 h2 h4 (hts _ hlink) hi hst hcf hin (by rw [q2]; exact h6) q1 q3 (by rw [hsl]; exact k2_hasslot (q4 j hj)) rfl rfl hd fun H' e1 e2 e3 => ?_
  rw [hsl] at e1 ⊢
  refine kk ls H' _ hl (hN.put e2 e3 hne ?_) (hS.put e2 e3 (hA _ (by omega)))
  rw [hov']
  exact ⟨_, hc, t_OB.to (V := updV (vp_V fs) j (.ref (G.2.2.1 f' i'))) ⟨_, e1, q2, q3, t_set q4 hap hj _⟩ (fun k _ => vp_updV_set hl0 _ k)⟩
theorem nj_putN (E : NE G B lo A own cc nL p s m args c) {idx ci j f0 i0 f' i' o0 N : Nat} {C : String} {T : u_T} {ty : Nat → FieldType} {tj : FieldType} {fs : List Value} {ov' : List (Nat × va_E)} (hc : vwCl[ci]? = some (C, T, N)) (hws : ∀ w ∈ u_ws C T N, w ∈ WA) (hty : ∀ k, k < N → parseFieldDescriptor (T k).2.2.1 = some (ty k)) (hnm : ∀ a, a < N → ∀ b, b < N → a ≠ b → (T a).2.1 ≠ (T b).2.1) (hj : j < N) (hlink : Cond.fieldLink own idx (T j).1 (T j).2.1 (T j).2.2.1 ∈ WA) (hfin : (T j).2.2.2 = false) (hd2 : parseFieldDescriptor (T j).2.2.1 = some tj) (htj : ∀ a : Nat, narrow tj (.ref a) = .ref a ∧ fits tj (.ref a) = true) (hl0 : j < fs.length) (hi0 : i0 < xcn f0) (ho : ord f0 i0 = o0) (hlo : lo ≤ o0) (hon : o0 < n) (hov : nov G ov o0 = .inr (ci, fs)) (hov' : nov G ov' o0 = .inr (ci, fs.set j (.ref (G.2.2.1 f' i')))) (hne : ∀ o, o ≠ o0 → nov G ov' o = nov G ov o) (hd : decode cc pc = .ok (.putfield idx, 3)) (kk : NJ G B lo A nL p l e R s m args below meth c cs sl Q (pc + 3) L st n ov') : NJ G B lo A nL p l e R s m args below meth c cs sl Q pc L (.inr (f', i') :: .inr (f0, i0) :: st) n ov := by
  intro ls H locs hl hN hS
  obtain ⟨h1, h2, h3, h4, hts, hK, hG, hW, hA⟩ := E
  have ha : G.2.2.1 f0 i0 = B + o0 := by rw [hG f0 i0 hi0, ho]
  have hap := va_apart (own := own) hts hws ty hty hnm hK hc
  have hat := hN.2 o0 hlo hon
  rw [hov] at hat
  obtain ⟨r, hr1, cell, q1, q2, q3, q4⟩ := hat
  have hr : r = (C, T, N) := Option.some.inj (hr1.symm.trans hc)
  subst hr
  obtain ⟨hSl, hfc, kC, hkC, hkind⟩ := hK.1 ci _ hc
  obtain ⟨cf, kf, fi, f, hi, hsl⟩ := hSl j hj
  have hlay := hts _ (hws _ (u_in_lay hj))
  unfold u_lay at hlay
  rw [if_neg (by rw [hfin]; decide)] at hlay
  have hst := (u_facts hfc hkC (u_lays hts hws hj) hi).1
  have h6 := u_store hfc hkC hkind hlay hi hd2 (htj (G.2.2.1 f' i')).1 (htj (G.2.2.1 f' i')).2
  have es : ((.inr (f', i') :: .inr (f0, i0) :: st : List XV)).map (cv G) = .ref (G.2.2.1 f' i') :: .ref (B + o0) :: st.map (cv G) := by show _ :: Value.ref (G.2.2.1 f0 i0) :: _ = _; rw [ha]; rfl
  rw [es]
  refine W.putK h1 h2 (f := f) ⟨h4, hts _ hlink, ⟨_, _, _, hi⟩, hst⟩ (by rw [q2]; exact h6) q1 q3 (by rw [hsl]; exact k2_hasslot (q4 j hj)) rfl rfl hd fun H' e1 e2 e3 => ?_
  rw [hsl] at e1 ⊢
  refine kk ls H' _ hl (hN.put e2 e3 hne ?_) (hS.put e2 e3 (hA _ (by omega)))
  rw [hov']
  exact ⟨_, hc, t_OB.to (V := updV (vp_V fs) j (.ref (G.2.2.1 f' i'))) ⟨_, e1, q2, q3, t_set q4 hap hj _⟩ (fun k _ => vp_updV_set hl0 _ k)⟩
theorem nj_getF (E : NE G B lo A own cc nL p s m args c) {idx ci j f0 i0 f' i' o0 N : Nat} {C : String} {T : u_T} {fs : List Value} (hc : vwCl[ci]? = some (C, T, N)) (hws : ∀ w ∈ u_ws C T N, w ∈ WA) (hj : j < N) (hlink : Cond.fieldLink own idx (T j).1 (T j).2.1 (T j).2.2.1 ∈ WA) (hi0 : i0 < xcn f0) (ho : ord f0 i0 = o0) (hlo : lo ≤ o0) (hon : o0 < n) (hov : nov G ov o0 = .inr (ci, fs)) (hv : fs[j]? = some (.ref (G.2.2.1 f' i'))) (hd : decode cc pc = .ok (.getfield idx, 3)) (kk : NJ G B lo A nL p l e R s m args below meth c cs sl Q (pc + 3) L (.inr (f', i') :: st) n ov) : NJ G B lo A nL p l e R s m args below meth c cs sl Q pc L (.inr (f0, i0) :: st) n ov := by
  intro ls H locs hl hN hS
  have kk1 := kk ls H locs hl hN hS
  obtain ⟨h1, h2, h3, h4, hts, hK, hG, hW, hA⟩ := E
  have ha : G.2.2.1 f0 i0 = B + o0 := by rw [hG f0 i0 hi0, ho]
  have hat := hN.2 o0 hlo hon
  rw [hov] at hat
  have hP : va_P (G.1, G.2.1) vwCl [(B + o0, .inr (ci, fs))] H := fun k q hk => by
    have hz : k < 1 := (List.getElem?_eq_some_iff.mp hk).1
    rw [show k = 0 by omega] at hk
    cases hk
    exact hat
  have es : ((.inr (f0, i0) :: st : List XV)).map (cv G) = .ref (B + o0) :: st.map (cv G) := by show Value.ref (G.2.2.1 f0 i0) :: _ = _; rw [ha]
  rw [es]
  exact va_get h1 h2 hts hws h4 hK hP 0 rfl hc j hj (hts _ hlink) (fun _ h9 => h9) hv hd kk1
theorem nj_aast (E : NE G B lo A own cc nL p s m args c) {fa ia f' i' oa o' u N ci : Nat} {k : Int32} {r : vw_C} {vs : List Value} {g : Nat → Option Nat} {ov' : List (Nat × va_E)} (hia : ia < xcn fa) (ho : ord fa ia = oa) (hlo : lo ≤ oa) (hon : oa < n) (hov : nov G ov oa = .inl (G.2.2.2 (u + 2), N, .inr (.inr (.inr (.inr g))))) (hi' : i' < xcn f') (ho' : ord f' i' = o') (hlo' : lo ≤ o') (hon' : o' < n) (hv : nov G ov o' = .inr (ci, vs)) (hc : vwCl[ci]? = some r) (hu : (xty G)[u + 2]? = some (G.2.2.2 (u + 2), .object r.1)) (hin : vp_in k N) (hov' : nov G ov' oa = .inl (G.2.2.2 (u + 2), N, .inr (.inr (.inr (.inr (va_up g k.toNatClampNeg (some (G.2.2.1 f' i')))))))) (hne : ∀ o, o ≠ oa → nov G ov' o = nov G ov o) (hd : decode cc pc = .ok (.aastore, 1)) (kk : NJ G B lo A nL p l e R s m args below meth c cs sl Q (pc + 1) L st n ov') : NJ G B lo A nL p l e R s m args below meth c cs sl Q pc L (.inr (f', i') :: .inl k :: .inr (fa, ia) :: st) n ov := by
  intro ls H locs hl hN hS
  obtain ⟨h1, h2, h3, h4, hts, hK, hG, hW, hA⟩ := E
  have ha : G.2.2.1 fa ia = B + oa := by rw [hG fa ia hia, ho]
  have ha' : G.2.2.1 f' i' = B + o' := by rw [hG f' i' hi', ho']
  have hlt : k.toNatClampNeg < N := Nat.not_le.mp fun q => hin (Or.inr q)
  have h0 : ¬ k < 0 := fun q => hin (Or.inl q)
  have hat := hN.2 oa hlo hon
  rw [hov] at hat
  have hat' := hN.2 o' hlo' hon'
  rw [hv] at hat'
  obtain ⟨r', hr', cellV, g1, g2, g3, -⟩ := hat'
  have hcls := (hK.1 ci r hc).2
  obtain ⟨kA, comp, k1, k2, k3, -⟩ := (hK.2 (u + 2) _ hu).2
  have hcomp : comp = G.1 ci := Option.some.inj (k3.symm.trans hcls.1)
  subst hcomp
  obtain ⟨kC, hkC, -⟩ := hcls.2
  have es : ((.inr (f', i') :: .inl k :: .inr (fa, ia) :: st : List XV)).map (cv G) = .ref (B + o') :: .int k :: .ref (B + oa) :: st.map (cv G) := by show Value.ref (G.2.2.1 f' i') :: _ :: Value.ref (G.2.2.1 fa ia) :: _ = _; rw [ha, ha']; rfl
  rw [es]
  refine W.aast h1 h2 hat (fun q h => by cases h) (fun h => by cases h) k1 k2 rfl hkC ⟨h0, by show _ < (arrV _ _ _).slots.size; rw [arrV_size]; exact hlt⟩ g1 (fun q h => by rw [g3] at h; cases h) (by rw [g2]; exact hkC) (by rw [g2]; exact va_assign hcls) rfl rfl hd fun H1 e1 z oq => ?_
  refine kk ls H1 _ hl (hN.put z oq hne ?_) (hS.put z oq (hA _ (by omega)))
  rw [hov']
  show H1[B + oa]? = some (vp_cell _ _)
  rw [e1, ha']
  rw [vp_cell_q, vp_cell_q, arrV_store]
  congr 2
  funext q
  by_cases hq : q = k.toNatClampNeg
  · subst hq
    simp [updV, va_up, va_rf]
  · simp [updV, va_up, hq]
theorem nj_objInit (E : NE G B lo A own cc nL p s m args c) {idx : Nat} {q : Nat × Nat} (hlink : Cond.methodLink own idx objectInit ∈ WA) (hlen : st.length ≤ 8) (hR : 1 ≤ R.frames ∧ 40 ≤ R.locals) (hd : decode cc pc = .ok (.invokespecial idx, 3)) (kk : NJ G B lo A nL p l e R s m args below meth c cs sl Q (pc + 3) L st n ov) : NJ G B lo A nL p l e R s m args below meth c cs sl Q pc L (.inr q :: st) n ov := by
  intro ls H locs hl hN hS
  have kk1 := kk ls H locs hl hN hS
  obtain ⟨h1, h2, h3, h4, hts, hK, hG, hW, hA⟩ := E
  exact W.objInit h1 h2 h4 (hts _ hlink) (hts _ WA_oi) (hts _ WA_oc) rfl (by rw [h3]; exact hl.1) rfl hd hR.1 (by have := xcat G st hlen; show 2 * 0 + _ + 12 ≤ _; omega) kk1
end NROWS
