section
-- ===== PART A: goes FIRST, ahead of the names: the tables' words, and 'selects' of the private methods out of them =====
/-- a private method of a class that the tables say can be made, by its rows of tables_1 -/
def lw_okq (q : MethodName × Nat) : Prop := (q.1.cls ≠ "java/lang/invoke/MethodHandle" ∧ q.1.cls ≠ "java/lang/invoke/VarHandle") ∧ Cond.instantiable q.1.cls q.2 ∈ tables_1 ∧ Cond.privateMethod q.1 ∈ tables_1 ∧ Cond.instanceMethod q.1 ∈ tables_1
theorem lw_p0 : lw_okq (⟨"BoundChains", "isInterceptor", "(I)Z"⟩, 12) := ⟨⟨by decide +kernel, by decide +kernel⟩, List.mem_of_getElem? (i := 13) (by decide +kernel), List.mem_of_getElem? (i := 346) (by decide +kernel), List.mem_of_getElem? (i := 347) (by decide +kernel)⟩
theorem lw_p1 : lw_okq (⟨"BoundChains", "addBinding", "(LBoundChains$Bindings;II)I"⟩, 12) := ⟨⟨by decide +kernel, by decide +kernel⟩, List.mem_of_getElem? (i := 13) (by decide +kernel), List.mem_of_getElem? (i := 350) (by decide +kernel), List.mem_of_getElem? (i := 351) (by decide +kernel)⟩
theorem lw_p2 : lw_okq (⟨"BoundChains", "isPlace", "(II)Z"⟩, 12) := ⟨⟨by decide +kernel, by decide +kernel⟩, List.mem_of_getElem? (i := 13) (by decide +kernel), List.mem_of_getElem? (i := 360) (by decide +kernel), List.mem_of_getElem? (i := 361) (by decide +kernel)⟩
theorem lw_p3 : lw_okq (⟨"BoundChains", "isComponent", "(I)Z"⟩, 12) := ⟨⟨by decide +kernel, by decide +kernel⟩, List.mem_of_getElem? (i := 13) (by decide +kernel), List.mem_of_getElem? (i := 364) (by decide +kernel), List.mem_of_getElem? (i := 365) (by decide +kernel)⟩
theorem lw_p4 : lw_okq (⟨"BoundChains", "findConflictOfInterceptor", "()I"⟩, 12) := ⟨⟨by decide +kernel, by decide +kernel⟩, List.mem_of_getElem? (i := 13) (by decide +kernel), List.mem_of_getElem? (i := 388) (by decide +kernel), List.mem_of_getElem? (i := 389) (by decide +kernel)⟩
theorem lw_p5 : lw_okq (⟨"BoundChains", "hasConflict", "(LBoundChains$Bindings;)Z"⟩, 12) := ⟨⟨by decide +kernel, by decide +kernel⟩, List.mem_of_getElem? (i := 13) (by decide +kernel), List.mem_of_getElem? (i := 392) (by decide +kernel), List.mem_of_getElem? (i := 393) (by decide +kernel)⟩
theorem lw_p6 : lw_okq (⟨"BoundChains", "findConflictOfComponent", "()I"⟩, 12) := ⟨⟨by decide +kernel, by decide +kernel⟩, List.mem_of_getElem? (i := 13) (by decide +kernel), List.mem_of_getElem? (i := 408) (by decide +kernel), List.mem_of_getElem? (i := 409) (by decide +kernel)⟩
theorem lw_p7 : lw_okq (⟨"BoundChains", "findFinalWithChain", "()I"⟩, 12) := ⟨⟨by decide +kernel, by decide +kernel⟩, List.mem_of_getElem? (i := 13) (by decide +kernel), List.mem_of_getElem? (i := 412) (by decide +kernel), List.mem_of_getElem? (i := 413) (by decide +kernel)⟩
theorem lw_p8 : lw_okq (⟨"BoundChains", "buildChain", "(LBoundChains$Component;I)V"⟩, 12) := ⟨⟨by decide +kernel, by decide +kernel⟩, List.mem_of_getElem? (i := 13) (by decide +kernel), List.mem_of_getElem? (i := 420) (by decide +kernel), List.mem_of_getElem? (i := 421) (by decide +kernel)⟩
theorem lw_p9 : lw_okq (⟨"BoundChains", "appendListed", "(LBoundChains$Place;I)V"⟩, 12) := ⟨⟨by decide +kernel, by decide +kernel⟩, List.mem_of_getElem? (i := 13) (by decide +kernel), List.mem_of_getElem? (i := 424) (by decide +kernel), List.mem_of_getElem? (i := 425) (by decide +kernel)⟩
theorem lw_p10 : lw_okq (⟨"BoundChains", "appendBound", "(I)V"⟩, 12) := ⟨⟨by decide +kernel, by decide +kernel⟩, List.mem_of_getElem? (i := 13) (by decide +kernel), List.mem_of_getElem? (i := 436) (by decide +kernel), List.mem_of_getElem? (i := 437) (by decide +kernel)⟩
theorem lw_p11 : lw_okq (⟨"BoundChains", "isInForce", "(LBoundChains$Bindings;)Z"⟩, 12) := ⟨⟨by decide +kernel, by decide +kernel⟩, List.mem_of_getElem? (i := 13) (by decide +kernel), List.mem_of_getElem? (i := 440) (by decide +kernel), List.mem_of_getElem? (i := 441) (by decide +kernel)⟩
theorem lw_p12 : lw_okq (⟨"BoundChains", "findInForceForMethod", "(LBoundChains$Component;LBoundChains$Place;)V"⟩, 12) := ⟨⟨by decide +kernel, by decide +kernel⟩, List.mem_of_getElem? (i := 13) (by decide +kernel), List.mem_of_getElem? (i := 448) (by decide +kernel), List.mem_of_getElem? (i := 449) (by decide +kernel)⟩
theorem lw_p13 : lw_okq (⟨"BoundChains", "appendDecorators", "(II)V"⟩, 12) := ⟨⟨by decide +kernel, by decide +kernel⟩, List.mem_of_getElem? (i := 13) (by decide +kernel), List.mem_of_getElem? (i := 457) (by decide +kernel), List.mem_of_getElem? (i := 458) (by decide +kernel)⟩
theorem lw_p14 : lw_okq (⟨"BoundChains", "hasChain", "(II)Z"⟩, 12) := ⟨⟨by decide +kernel, by decide +kernel⟩, List.mem_of_getElem? (i := 13) (by decide +kernel), List.mem_of_getElem? (i := 469) (by decide +kernel), List.mem_of_getElem? (i := 470) (by decide +kernel)⟩
theorem lw_p15 : lw_okq (⟨"BoundChains$Invocation", "enter", "(LBoundChains$Chain;II)I"⟩, 7) := ⟨⟨by decide +kernel, by decide +kernel⟩, List.mem_of_getElem? (i := 197) (by decide +kernel), List.mem_of_getElem? (i := 486) (by decide +kernel), List.mem_of_getElem? (i := 487) (by decide +kernel)⟩
def lw_privs_1 : List (MethodName × Nat) := [(⟨"BoundChains", "isInterceptor", "(I)Z"⟩, 12), (⟨"BoundChains", "addBinding", "(LBoundChains$Bindings;II)I"⟩, 12), (⟨"BoundChains", "isPlace", "(II)Z"⟩, 12), (⟨"BoundChains", "isComponent", "(I)Z"⟩, 12), (⟨"BoundChains", "findConflictOfInterceptor", "()I"⟩, 12), (⟨"BoundChains", "hasConflict", "(LBoundChains$Bindings;)Z"⟩, 12), (⟨"BoundChains", "findConflictOfComponent", "()I"⟩, 12), (⟨"BoundChains", "findFinalWithChain", "()I"⟩, 12), (⟨"BoundChains", "buildChain", "(LBoundChains$Component;I)V"⟩, 12), (⟨"BoundChains", "appendListed", "(LBoundChains$Place;I)V"⟩, 12), (⟨"BoundChains", "appendBound", "(I)V"⟩, 12), (⟨"BoundChains", "isInForce", "(LBoundChains$Bindings;)Z"⟩, 12), (⟨"BoundChains", "findInForceForMethod", "(LBoundChains$Component;LBoundChains$Place;)V"⟩, 12), (⟨"BoundChains", "appendDecorators", "(II)V"⟩, 12), (⟨"BoundChains", "hasChain", "(II)Z"⟩, 12), (⟨"BoundChains$Invocation", "enter", "(LBoundChains$Chain;II)I"⟩, 7)]
theorem lw_r1 : ∀ q ∈ lw_privs_1, lw_okq q := List.forall_mem_cons.mpr ⟨lw_p0, List.forall_mem_cons.mpr ⟨lw_p1, List.forall_mem_cons.mpr ⟨lw_p2, List.forall_mem_cons.mpr ⟨lw_p3, List.forall_mem_cons.mpr ⟨lw_p4, List.forall_mem_cons.mpr ⟨lw_p5, List.forall_mem_cons.mpr ⟨lw_p6, List.forall_mem_cons.mpr ⟨lw_p7, List.forall_mem_cons.mpr ⟨lw_p8, List.forall_mem_cons.mpr ⟨lw_p9, List.forall_mem_cons.mpr ⟨lw_p10, List.forall_mem_cons.mpr ⟨lw_p11, List.forall_mem_cons.mpr ⟨lw_p12, List.forall_mem_cons.mpr ⟨lw_p13, List.forall_mem_cons.mpr ⟨lw_p14, List.forall_mem_cons.mpr ⟨lw_p15, fun _ h => absurd h List.not_mem_nil⟩⟩⟩⟩⟩⟩⟩⟩⟩⟩⟩⟩⟩⟩⟩⟩
theorem lw_p16 : lw_okq (⟨"BoundChains$Invocation", "fail", "(I)I"⟩, 7) := ⟨⟨by decide +kernel, by decide +kernel⟩, List.mem_of_getElem? (i := 197) (by decide +kernel), List.mem_of_getElem? (i := 490) (by decide +kernel), List.mem_of_getElem? (i := 491) (by decide +kernel)⟩
theorem lw_p17 : lw_okq (⟨"BoundChains$Invocation", "reachTarget", "(I)I"⟩, 7) := ⟨⟨by decide +kernel, by decide +kernel⟩, List.mem_of_getElem? (i := 197) (by decide +kernel), List.mem_of_getElem? (i := 494) (by decide +kernel), List.mem_of_getElem? (i := 495) (by decide +kernel)⟩
theorem lw_p18 : lw_okq (⟨"BoundChains$Invocation", "behave", "(LBoundChains$Chain;II)I"⟩, 7) := ⟨⟨by decide +kernel, by decide +kernel⟩, List.mem_of_getElem? (i := 197) (by decide +kernel), List.mem_of_getElem? (i := 498) (by decide +kernel), List.mem_of_getElem? (i := 499) (by decide +kernel)⟩
theorem lw_p19 : lw_okq (⟨"BoundChains$Invocation", "proceedTwice", "(LBoundChains$Chain;II)I"⟩, 7) := ⟨⟨by decide +kernel, by decide +kernel⟩, List.mem_of_getElem? (i := 197) (by decide +kernel), List.mem_of_getElem? (i := 502) (by decide +kernel), List.mem_of_getElem? (i := 503) (by decide +kernel)⟩
theorem lw_p20 : lw_okq (⟨"BoundChains$Invocation", "proceed", "(LBoundChains$Chain;II)I"⟩, 7) := ⟨⟨by decide +kernel, by decide +kernel⟩, List.mem_of_getElem? (i := 197) (by decide +kernel), List.mem_of_getElem? (i := 506) (by decide +kernel), List.mem_of_getElem? (i := 507) (by decide +kernel)⟩
theorem lw_p21 : lw_okq (⟨"BoundChains$Invocation", "growShared", "(LBoundChains$Chain;I)I"⟩, 7) := ⟨⟨by decide +kernel, by decide +kernel⟩, List.mem_of_getElem? (i := 197) (by decide +kernel), List.mem_of_getElem? (i := 510) (by decide +kernel), List.mem_of_getElem? (i := 511) (by decide +kernel)⟩
theorem lw_p22 : lw_okq (⟨"BoundChains$Invocation", "proceedAndCatch", "(LBoundChains$Chain;II)I"⟩, 7) := ⟨⟨by decide +kernel, by decide +kernel⟩, List.mem_of_getElem? (i := 197) (by decide +kernel), List.mem_of_getElem? (i := 514) (by decide +kernel), List.mem_of_getElem? (i := 515) (by decide +kernel)⟩
theorem lw_p23 : lw_okq (⟨"BoundChainsModel", "bindRow", "(III)I"⟩, 42) := ⟨⟨by decide +kernel, by decide +kernel⟩, List.mem_of_getElem? (i := 530) (by decide +kernel), List.mem_of_getElem? (i := 694) (by decide +kernel), List.mem_of_getElem? (i := 695) (by decide +kernel)⟩
theorem lw_p24 : lw_okq (⟨"BoundChainsModel", "conflict", "(I)Z"⟩, 42) := ⟨⟨by decide +kernel, by decide +kernel⟩, List.mem_of_getElem? (i := 530) (by decide +kernel), List.mem_of_getElem? (i := 717) (by decide +kernel), List.mem_of_getElem? (i := 718) (by decide +kernel)⟩
theorem lw_p25 : lw_okq (⟨"BoundChainsModel", "close", "(I)V"⟩, 42) := ⟨⟨by decide +kernel, by decide +kernel⟩, List.mem_of_getElem? (i := 530) (by decide +kernel), List.mem_of_getElem? (i := 721) (by decide +kernel), List.mem_of_getElem? (i := 722) (by decide +kernel)⟩
theorem lw_p26 : lw_okq (⟨"BoundChainsModel", "add", "(II)V"⟩, 42) := ⟨⟨by decide +kernel, by decide +kernel⟩, List.mem_of_getElem? (i := 530) (by decide +kernel), List.mem_of_getElem? (i := 725) (by decide +kernel), List.mem_of_getElem? (i := 726) (by decide +kernel)⟩
theorem lw_p27 : lw_okq (⟨"BoundChainsModel", "build", "(II)V"⟩, 42) := ⟨⟨by decide +kernel, by decide +kernel⟩, List.mem_of_getElem? (i := 530) (by decide +kernel), List.mem_of_getElem? (i := 729) (by decide +kernel), List.mem_of_getElem? (i := 730) (by decide +kernel)⟩
theorem lw_p28 : lw_okq (⟨"BoundChainsModel", "linkList", "(II)V"⟩, 42) := ⟨⟨by decide +kernel, by decide +kernel⟩, List.mem_of_getElem? (i := 530) (by decide +kernel), List.mem_of_getElem? (i := 733) (by decide +kernel), List.mem_of_getElem? (i := 734) (by decide +kernel)⟩
theorem lw_p29 : lw_okq (⟨"BoundChainsModel", "link", "(II)V"⟩, 42) := ⟨⟨by decide +kernel, by decide +kernel⟩, List.mem_of_getElem? (i := 530) (by decide +kernel), List.mem_of_getElem? (i := 737) (by decide +kernel), List.mem_of_getElem? (i := 738) (by decide +kernel)⟩
theorem lw_p30 : lw_okq (⟨"BoundChainsModel", "force", "(II)V"⟩, 42) := ⟨⟨by decide +kernel, by decide +kernel⟩, List.mem_of_getElem? (i := 530) (by decide +kernel), List.mem_of_getElem? (i := 741) (by decide +kernel), List.mem_of_getElem? (i := 742) (by decide +kernel)⟩
theorem lw_p31 : lw_okq (⟨"BoundChainsModel", "takeOver", "(I)V"⟩, 42) := ⟨⟨by decide +kernel, by decide +kernel⟩, List.mem_of_getElem? (i := 530) (by decide +kernel), List.mem_of_getElem? (i := 745) (by decide +kernel), List.mem_of_getElem? (i := 746) (by decide +kernel)⟩
def lw_privs_2 : List (MethodName × Nat) := [(⟨"BoundChains$Invocation", "fail", "(I)I"⟩, 7), (⟨"BoundChains$Invocation", "reachTarget", "(I)I"⟩, 7), (⟨"BoundChains$Invocation", "behave", "(LBoundChains$Chain;II)I"⟩, 7), (⟨"BoundChains$Invocation", "proceedTwice", "(LBoundChains$Chain;II)I"⟩, 7), (⟨"BoundChains$Invocation", "proceed", "(LBoundChains$Chain;II)I"⟩, 7), (⟨"BoundChains$Invocation", "growShared", "(LBoundChains$Chain;I)I"⟩, 7), (⟨"BoundChains$Invocation", "proceedAndCatch", "(LBoundChains$Chain;II)I"⟩, 7), (⟨"BoundChainsModel", "bindRow", "(III)I"⟩, 42), (⟨"BoundChainsModel", "conflict", "(I)Z"⟩, 42), (⟨"BoundChainsModel", "close", "(I)V"⟩, 42), (⟨"BoundChainsModel", "add", "(II)V"⟩, 42), (⟨"BoundChainsModel", "build", "(II)V"⟩, 42), (⟨"BoundChainsModel", "linkList", "(II)V"⟩, 42), (⟨"BoundChainsModel", "link", "(II)V"⟩, 42), (⟨"BoundChainsModel", "force", "(II)V"⟩, 42), (⟨"BoundChainsModel", "takeOver", "(I)V"⟩, 42)]
theorem lw_r2 : ∀ q ∈ lw_privs_2, lw_okq q := List.forall_mem_cons.mpr ⟨lw_p16, List.forall_mem_cons.mpr ⟨lw_p17, List.forall_mem_cons.mpr ⟨lw_p18, List.forall_mem_cons.mpr ⟨lw_p19, List.forall_mem_cons.mpr ⟨lw_p20, List.forall_mem_cons.mpr ⟨lw_p21, List.forall_mem_cons.mpr ⟨lw_p22, List.forall_mem_cons.mpr ⟨lw_p23, List.forall_mem_cons.mpr ⟨lw_p24, List.forall_mem_cons.mpr ⟨lw_p25, List.forall_mem_cons.mpr ⟨lw_p26, List.forall_mem_cons.mpr ⟨lw_p27, List.forall_mem_cons.mpr ⟨lw_p28, List.forall_mem_cons.mpr ⟨lw_p29, List.forall_mem_cons.mpr ⟨lw_p30, List.forall_mem_cons.mpr ⟨lw_p31, fun _ h => absurd h List.not_mem_nil⟩⟩⟩⟩⟩⟩⟩⟩⟩⟩⟩⟩⟩⟩⟩⟩
theorem lw_p32 : lw_okq (⟨"BoundChainsModel", "isBound", "(I)Z"⟩, 42) := ⟨⟨by decide +kernel, by decide +kernel⟩, List.mem_of_getElem? (i := 530) (by decide +kernel), List.mem_of_getElem? (i := 749) (by decide +kernel), List.mem_of_getElem? (i := 750) (by decide +kernel)⟩
theorem lw_p33 : lw_okq (⟨"BoundChainsModel", "check", "(II)I"⟩, 42) := ⟨⟨by decide +kernel, by decide +kernel⟩, List.mem_of_getElem? (i := 530) (by decide +kernel), List.mem_of_getElem? (i := 757) (by decide +kernel), List.mem_of_getElem? (i := 758) (by decide +kernel)⟩
theorem lw_p34 : lw_okq (⟨"BoundChainsModel", "answer", "(ZI)V"⟩, 42) := ⟨⟨by decide +kernel, by decide +kernel⟩, List.mem_of_getElem? (i := 530) (by decide +kernel), List.mem_of_getElem? (i := 769) (by decide +kernel), List.mem_of_getElem? (i := 770) (by decide +kernel)⟩
theorem lw_p35 : lw_okq (⟨"BoundChainsModel", "enter", "(III)Z"⟩, 42) := ⟨⟨by decide +kernel, by decide +kernel⟩, List.mem_of_getElem? (i := 530) (by decide +kernel), List.mem_of_getElem? (i := 773) (by decide +kernel), List.mem_of_getElem? (i := 774) (by decide +kernel)⟩
theorem lw_p36 : lw_okq (⟨"BoundChainsModel", "behaviourOf", "(I)I"⟩, 42) := ⟨⟨by decide +kernel, by decide +kernel⟩, List.mem_of_getElem? (i := 530) (by decide +kernel), List.mem_of_getElem? (i := 777) (by decide +kernel), List.mem_of_getElem? (i := 778) (by decide +kernel)⟩
theorem lw_p37 : lw_okq (⟨"BoundChainsModel", "resume", "(I)Z"⟩, 42) := ⟨⟨by decide +kernel, by decide +kernel⟩, List.mem_of_getElem? (i := 530) (by decide +kernel), List.mem_of_getElem? (i := 781) (by decide +kernel), List.mem_of_getElem? (i := 782) (by decide +kernel)⟩
def lw_privs_3 : List (MethodName × Nat) := [(⟨"BoundChainsModel", "isBound", "(I)Z"⟩, 42), (⟨"BoundChainsModel", "check", "(II)I"⟩, 42), (⟨"BoundChainsModel", "answer", "(ZI)V"⟩, 42), (⟨"BoundChainsModel", "enter", "(III)Z"⟩, 42), (⟨"BoundChainsModel", "behaviourOf", "(I)I"⟩, 42), (⟨"BoundChainsModel", "resume", "(I)Z"⟩, 42)]
theorem lw_r3 : ∀ q ∈ lw_privs_3, lw_okq q := List.forall_mem_cons.mpr ⟨lw_p32, List.forall_mem_cons.mpr ⟨lw_p33, List.forall_mem_cons.mpr ⟨lw_p34, List.forall_mem_cons.mpr ⟨lw_p35, List.forall_mem_cons.mpr ⟨lw_p36, List.forall_mem_cons.mpr ⟨lw_p37, fun _ h => absurd h List.not_mem_nil⟩⟩⟩⟩⟩⟩
def lw_privs : List (MethodName × Nat) := lw_privs_1 ++ (lw_privs_2 ++ (lw_privs_3))
def lw_tbl : List Cond := k2_sels lw_privs ++ tables_1
theorem lw_privs_ok : ∀ q ∈ lw_privs, lw_okq q := by
  show ∀ q ∈ lw_privs_1 ++ (lw_privs_2 ++ (lw_privs_3)), lw_okq q
  exact List.forall_mem_append.mpr ⟨lw_r1, List.forall_mem_append.mpr ⟨lw_r2, lw_r3⟩⟩
end
section
def WA : List Cond := lw_tbl.filter goodWord
theorem WA_good : GoodIn WA WA := fun w hw => ⟨hw, good_of_word (List.mem_filter.mp hw).2⟩
theorem WA_tbl {w : Cond} (h : w ∈ WA) : w ∈ lw_tbl := (List.mem_filter.mp h).1
theorem wa_t {w : Cond} (i : Nat) (h : tables_1[i]? = some w) (hg : goodWord w = true) : w ∈ WA := List.mem_filter.mpr ⟨List.mem_append_right _ (List.mem_of_getElem? h), hg⟩
theorem wa_s {q : MethodName × Nat} (i : Nat) (h : lw_privs[i]? = some q) : Cond.selects q.1.cls q.1 q.1 ∈ WA := List.mem_filter.mpr ⟨List.mem_append_left _ (List.mem_map.mpr ⟨q, List.mem_of_getElem? h, rfl⟩), rfl⟩
theorem wa_u {ws : List Cond} (is : List Nat) (h : ws = is.filterMap (fun i => tables_1[i]?)) (hg : ws.all goodWord = true) : ∀ w ∈ ws, w ∈ WA := by
  intro w hw
  have h1 := List.all_eq_true.mp hg w hw
  rw [h] at hw
  obtain ⟨i, -, hi⟩ := List.mem_filterMap.mp hw
  exact wa_t i hi h1
def RX0 : String := "BoundChains$BindingTypes"
def TX0 : u_T := fun k => match k with
  | 0 => ("BoundChains$BindingTypes", "count", "I", false)
  | 1 => ("BoundChains$BindingTypes", "matters", "[Z", true)
  | 2 => ("BoundChains$BindingTypes", "carriers", "[I", true)
  | _ => ("BoundChains$BindingTypes", "carried", "LBoundChains$Bindings;", true)
def tyX0 : Nat → FieldType := fun k => match k with
  | 0 => .int
  | 1 => .array .boolean
  | 2 => .array .int
  | _ => .object "BoundChains$Bindings"
theorem nmX0 : ∀ a, a < 4 → ∀ b, b < 4 → a ≠ b → (TX0 a).2.1 ≠ (TX0 b).2.1 := by decide +kernel
theorem okX0 : ∀ k, k < 4 → parseFieldDescriptor (TX0 k).2.2.1 = some (tyX0 k) := by decide +kernel
theorem inX0 : ∀ w ∈ u_ws RX0 TX0 4, w ∈ WA := wa_u [56, 58, 60, 62] (by decide +kernel) (by decide +kernel)
def RX1 : String := "BoundChains$Bindings"
def TX1 : u_T := fun k => match k with
  | 0 => ("BoundChains$Bindings", "count", "I", false)
  | 1 => ("BoundChains$Bindings", "types", "[I", true)
  | _ => ("BoundChains$Bindings", "values", "[I", true)
def tyX1 : Nat → FieldType := fun k => match k with
  | 0 => .int
  | 1 => .array .int
  | _ => .array .int
theorem nmX1 : ∀ a, a < 3 → ∀ b, b < 3 → a ≠ b → (TX1 a).2.1 ≠ (TX1 b).2.1 := by decide +kernel
theorem okX1 : ∀ k, k < 3 → parseFieldDescriptor (TX1 k).2.2.1 = some (tyX1 k) := by decide +kernel
theorem inX1 : ∀ w ∈ u_ws RX1 TX1 3, w ∈ WA := wa_u [41, 43, 45] (by decide +kernel) (by decide +kernel)
def RX2 : String := "BoundChains$Chain"
def TX2 : u_T := fun k => match k with
  | 0 => ("BoundChains$Chain", "count", "I", false)
  | 1 => ("BoundChains$Chain", "elements", "[I", true)
  | _ => ("BoundChains$Chain", "behaviours", "[I", true)
def tyX2 : Nat → FieldType := fun k => match k with
  | 0 => .int
  | 1 => .array .int
  | _ => .array .int
theorem nmX2 : ∀ a, a < 3 → ∀ b, b < 3 → a ≠ b → (TX2 a).2.1 ≠ (TX2 b).2.1 := by decide +kernel
theorem okX2 : ∀ k, k < 3 → parseFieldDescriptor (TX2 k).2.2.1 = some (tyX2 k) := by decide +kernel
theorem inX2 : ∀ w ∈ u_ws RX2 TX2 3, w ∈ WA := wa_u [189, 191, 193] (by decide +kernel) (by decide +kernel)
def RX3 : String := "BoundChains$Closure"
def TX3 : u_T := fun k => match k with
  | 0 => ("BoundChains$Closure", "reached", "[Z", true)
  | 1 => ("BoundChains$Closure", "values", "[I", true)
  | _ => ("BoundChains$Closure", "conflict", "Z", false)
def tyX3 : Nat → FieldType := fun k => match k with
  | 0 => .array .boolean
  | 1 => .array .int
  | _ => .boolean
theorem nmX3 : ∀ a, a < 3 → ∀ b, b < 3 → a ≠ b → (TX3 a).2.1 ≠ (TX3 b).2.1 := by decide +kernel
theorem okX3 : ∀ k, k < 3 → parseFieldDescriptor (TX3 k).2.2.1 = some (tyX3 k) := by decide +kernel
theorem inX3 : ∀ w ∈ u_ws RX3 TX3 3, w ∈ WA := wa_u [168, 170, 172] (by decide +kernel) (by decide +kernel)
def RX4 : String := "BoundChains$Component"
def TX4 : u_T := fun k => match k with
  | 0 => ("BoundChains$Component", "types", "I", false)
  | 1 => ("BoundChains$Component", "own", "LBoundChains$Place;", true)
  | _ => ("BoundChains$Component", "methods", "[LBoundChains$Place;", true)
def tyX4 : Nat → FieldType := fun k => match k with
  | 0 => .int
  | 1 => .object "BoundChains$Place"
  | _ => .array (.object "BoundChains$Place")
theorem nmX4 : ∀ a, a < 3 → ∀ b, b < 3 → a ≠ b → (TX4 a).2.1 ≠ (TX4 b).2.1 := by decide +kernel
theorem okX4 : ∀ k, k < 3 → parseFieldDescriptor (TX4 k).2.2.1 = some (tyX4 k) := by decide +kernel
theorem inX4 : ∀ w ∈ u_ws RX4 TX4 3, w ∈ WA := wa_u [150, 152, 154] (by decide +kernel) (by decide +kernel)
def RX5 : String := "BoundChains$Decorator"
def TX5 : u_T := fun k => match k with
  | 0 => ("BoundChains$Decorator", "priority", "I", false)
  | 1 => ("BoundChains$Decorator", "type", "I", false)
  | 2 => ("BoundChains$Decorator", "methods", "I", false)
  | _ => ("BoundChains$Decorator", "behaviour", "I", false)
def tyX5 : Nat → FieldType := fun k => match k with
  | 0 => .int
  | 1 => .int
  | 2 => .int
  | _ => .int
theorem nmX5 : ∀ a, a < 4 → ∀ b, b < 4 → a ≠ b → (TX5 a).2.1 ≠ (TX5 b).2.1 := by decide +kernel
theorem okX5 : ∀ k, k < 4 → parseFieldDescriptor (TX5 k).2.2.1 = some (tyX5 k) := by decide +kernel
theorem inX5 : ∀ w ∈ u_ws RX5 TX5 4, w ∈ WA := wa_u [103, 105, 107, 109] (by decide +kernel) (by decide +kernel)
def RX6 : String := "BoundChains$Interceptor"
def TX6 : u_T := fun k => match k with
  | 0 => ("BoundChains$Interceptor", "priority", "I", false)
  | 1 => ("BoundChains$Interceptor", "kinds", "I", false)
  | 2 => ("BoundChains$Interceptor", "behaviour", "I", false)
  | _ => ("BoundChains$Interceptor", "bindings", "LBoundChains$Bindings;", true)
def tyX6 : Nat → FieldType := fun k => match k with
  | 0 => .int
  | 1 => .int
  | 2 => .int
  | _ => .object "BoundChains$Bindings"
theorem nmX6 : ∀ a, a < 4 → ∀ b, b < 4 → a ≠ b → (TX6 a).2.1 ≠ (TX6 b).2.1 := by decide +kernel
theorem okX6 : ∀ k, k < 4 → parseFieldDescriptor (TX6 k).2.2.1 = some (tyX6 k) := by decide +kernel
theorem inX6 : ∀ w ∈ u_ws RX6 TX6 4, w ∈ WA := wa_u [81, 83, 85, 87] (by decide +kernel) (by decide +kernel)
def RX7 : String := "BoundChains$Invocation"
def TX7 : u_T := fun k => match k with
  | 0 => ("BoundChains$Invocation", "entries", "[I", true)
  | 1 => ("BoundChains$Invocation", "logged", "I", false)
  | 2 => ("BoundChains$Invocation", "returned", "I", false)
  | 3 => ("BoundChains$Invocation", "thrown", "I", false)
  | 4 => ("BoundChains$Invocation", "method", "I", false)
  | 5 => ("BoundChains$Invocation", "failing", "Z", false)
  | _ => ("BoundChains$Invocation", "shared", "I", false)
def tyX7 : Nat → FieldType := fun k => match k with
  | 0 => .array .int
  | 1 => .int
  | 2 => .int
  | 3 => .int
  | 4 => .int
  | 5 => .boolean
  | _ => .int
theorem nmX7 : ∀ a, a < 7 → ∀ b, b < 7 → a ≠ b → (TX7 a).2.1 ≠ (TX7 b).2.1 := by decide +kernel
theorem okX7 : ∀ k, k < 7 → parseFieldDescriptor (TX7 k).2.2.1 = some (tyX7 k) := by decide +kernel
theorem inX7 : ∀ w ∈ u_ws RX7 TX7 7, w ∈ WA := wa_u [213, 215, 217, 219, 221, 223, 225] (by decide +kernel) (by decide +kernel)
def RX8 : String := "BoundChains$Place"
def TX8 : u_T := fun k => match k with
  | 0 => ("BoundChains$Place", "bindings", "LBoundChains$Bindings;", true)
  | 1 => ("BoundChains$Place", "listed", "[I", true)
  | 2 => ("BoundChains$Place", "listedCount", "I", false)
  | _ => ("BoundChains$Place", "flags", "I", false)
def tyX8 : Nat → FieldType := fun k => match k with
  | 0 => .object "BoundChains$Bindings"
  | 1 => .array .int
  | 2 => .int
  | _ => .int
theorem nmX8 : ∀ a, a < 4 → ∀ b, b < 4 → a ≠ b → (TX8 a).2.1 ≠ (TX8 b).2.1 := by decide +kernel
theorem okX8 : ∀ k, k < 4 → parseFieldDescriptor (TX8 k).2.2.1 = some (tyX8 k) := by decide +kernel
theorem inX8 : ∀ w ∈ u_ws RX8 TX8 4, w ∈ WA := wa_u [135, 137, 139, 141] (by decide +kernel) (by decide +kernel)
def RX9 : String := "BoundChains"
def TX9 : u_T := fun k => match k with
  | 0 => ("BoundChains", "types", "LBoundChains$BindingTypes;", true)
  | 1 => ("BoundChains", "interceptors", "[LBoundChains$Interceptor;", true)
  | 2 => ("BoundChains", "interceptorCount", "I", false)
  | 3 => ("BoundChains", "decorators", "[LBoundChains$Decorator;", true)
  | 4 => ("BoundChains", "decoratorCount", "I", false)
  | 5 => ("BoundChains", "components", "[LBoundChains$Component;", true)
  | 6 => ("BoundChains", "componentCount", "I", false)
  | 7 => ("BoundChains", "deployed", "Z", false)
  | 8 => ("BoundChains", "inForce", "LBoundChains$Closure;", true)
  | 9 => ("BoundChains", "closure", "LBoundChains$Closure;", true)
  | 10 => ("BoundChains", "chain", "LBoundChains$Chain;", true)
  | _ => ("BoundChains", "invocation", "LBoundChains$Invocation;", true)
def tyX9 : Nat → FieldType := fun k => match k with
  | 0 => .object "BoundChains$BindingTypes"
  | 1 => .array (.object "BoundChains$Interceptor")
  | 2 => .int
  | 3 => .array (.object "BoundChains$Decorator")
  | 4 => .int
  | 5 => .array (.object "BoundChains$Component")
  | 6 => .int
  | 7 => .boolean
  | 8 => .object "BoundChains$Closure"
  | 9 => .object "BoundChains$Closure"
  | 10 => .object "BoundChains$Chain"
  | _ => .object "BoundChains$Invocation"
theorem nmX9 : ∀ a, a < 12 → ∀ b, b < 12 → a ≠ b → (TX9 a).2.1 ≠ (TX9 b).2.1 := by decide +kernel
theorem okX9 : ∀ k, k < 12 → parseFieldDescriptor (TX9 k).2.2.1 = some (tyX9 k) := by decide +kernel
theorem inX9 : ∀ w ∈ u_ws RX9 TX9 12, w ∈ WA := wa_u [240, 242, 244, 246, 248, 250, 252, 254, 256, 258, 260, 262] (by decide +kernel) (by decide +kernel)
def RX10 : String := "BoundChainsModel"
def TX10 : u_T := fun k => match k with
  | 0 => ("BoundChainsModel", "deployed", "Z", false)
  | 1 => ("BoundChainsModel", "types", "I", false)
  | 2 => ("BoundChainsModel", "matters", "[Z", false)
  | 3 => ("BoundChainsModel", "carried", "I", false)
  | 4 => ("BoundChainsModel", "carrier", "[I", false)
  | 5 => ("BoundChainsModel", "carryType", "[I", false)
  | 6 => ("BoundChainsModel", "carryValue", "[I", false)
  | 7 => ("BoundChainsModel", "interceptors", "I", false)
  | 8 => ("BoundChainsModel", "priority", "[I", false)
  | 9 => ("BoundChainsModel", "kinds", "[I", false)
  | 10 => ("BoundChainsModel", "behaviour", "[I", false)
  | 11 => ("BoundChainsModel", "decorators", "I", false)
  | 12 => ("BoundChainsModel", "decPriority", "[I", false)
  | 13 => ("BoundChainsModel", "decType", "[I", false)
  | 14 => ("BoundChainsModel", "decMethods", "[I", false)
  | 15 => ("BoundChainsModel", "decBehaviour", "[I", false)
  | 16 => ("BoundChainsModel", "components", "I", false)
  | 17 => ("BoundChainsModel", "typesOf", "[I", false)
  | 18 => ("BoundChainsModel", "flagsOf", "[I", false)
  | 19 => ("BoundChainsModel", "bound", "[I", false)
  | 20 => ("BoundChainsModel", "boundType", "[I", false)
  | 21 => ("BoundChainsModel", "boundValue", "[I", false)
  | 22 => ("BoundChainsModel", "listed", "[I", false)
  | 23 => ("BoundChainsModel", "list", "[I", false)
  | 24 => ("BoundChainsModel", "closed", "I", false)
  | 25 => ("BoundChainsModel", "closureType", "[I", false)
  | 26 => ("BoundChainsModel", "closureValue", "[I", false)
  | 27 => ("BoundChainsModel", "inForce", "I", false)
  | 28 => ("BoundChainsModel", "forceType", "[I", false)
  | 29 => ("BoundChainsModel", "forceValue", "[I", false)
  | 30 => ("BoundChainsModel", "links", "I", false)
  | 31 => ("BoundChainsModel", "chain", "[I", false)
  | 32 => ("BoundChainsModel", "own", "[I", false)
  | 33 => ("BoundChainsModel", "asked", "[I", false)
  | 34 => ("BoundChainsModel", "first", "[I", false)
  | 35 => ("BoundChainsModel", "entries", "I", false)
  | 36 => ("BoundChainsModel", "entry", "[I", false)
  | 37 => ("BoundChainsModel", "result", "I", false)
  | 38 => ("BoundChainsModel", "error", "I", false)
  | 39 => ("BoundChainsModel", "shared", "I", false)
  | 40 => ("BoundChainsModel", "threw", "Z", false)
  | _ => ("BoundChainsModel", "value", "I", false)
def tyX10 : Nat → FieldType := fun k => match k with
  | 0 => .boolean
  | 1 => .int
  | 2 => .array .boolean
  | 3 => .int
  | 4 => .array .int
  | 5 => .array .int
  | 6 => .array .int
  | 7 => .int
  | 8 => .array .int
  | 9 => .array .int
  | 10 => .array .int
  | 11 => .int
  | 12 => .array .int
  | 13 => .array .int
  | 14 => .array .int
  | 15 => .array .int
  | 16 => .int
  | 17 => .array .int
  | 18 => .array .int
  | 19 => .array .int
  | 20 => .array .int
  | 21 => .array .int
  | 22 => .array .int
  | 23 => .array .int
  | 24 => .int
  | 25 => .array .int
  | 26 => .array .int
  | 27 => .int
  | 28 => .array .int
  | 29 => .array .int
  | 30 => .int
  | 31 => .array .int
  | 32 => .array .int
  | 33 => .array .int
  | 34 => .array .int
  | 35 => .int
  | 36 => .array .int
  | 37 => .int
  | 38 => .int
  | 39 => .int
  | 40 => .boolean
  | _ => .int
theorem nmX10 : ∀ a, a < 42 → ∀ b, b < 42 → a ≠ b → (TX10 a).2.1 ≠ (TX10 b).2.1 := by decide +kernel
theorem okX10 : ∀ k, k < 42 → parseFieldDescriptor (TX10 k).2.2.1 = some (tyX10 k) := by decide +kernel
theorem inX10 : ∀ w ∈ u_ws RX10 TX10 42, w ∈ WA := wa_u [577, 579, 581, 583, 585, 587, 589, 591, 593, 595, 597, 599, 601, 603, 605, 607, 609, 611, 613, 615, 617, 619, 621, 623, 625, 627, 629, 631, 633, 635, 637, 639, 641, 643, 645, 647, 649, 651, 653, 655, 657, 659] (by decide +kernel) (by decide +kernel)
abbrev vwCl : List vw_C := [(RX0, TX0, 4), (RX1, TX1, 3), (RX2, TX2, 3), (RX3, TX3, 3), (RX4, TX4, 3), (RX5, TX5, 4), (RX6, TX6, 4), (RX7, TX7, 7), (RX8, TX8, 4), (RX9, TX9, 12), (RX10, TX10, 42)]
def RL : String := "BoundChainsLaw"
abbrev c_X9_init : ByteArray := prog_1_method_1_code
def y_X9_init : MethodName := ⟨RX9, "<init>", "()V"⟩
abbrev c_X0_init : ByteArray := prog_2_method_1_code
def y_X0_init : MethodName := ⟨RX0, "<init>", "()V"⟩
abbrev c_X1_init : ByteArray := prog_3_method_1_code
def y_X1_init : MethodName := ⟨RX1, "<init>", "(I)V"⟩
abbrev c_X6_init : ByteArray := prog_8_method_1_code
def y_X6_init : MethodName := ⟨RX6, "<init>", "()V"⟩
abbrev c_X5_init : ByteArray := prog_7_method_1_code
def y_X5_init : MethodName := ⟨RX5, "<init>", "()V"⟩
abbrev c_X4_init : ByteArray := prog_6_method_1_code
def y_X4_init : MethodName := ⟨RX4, "<init>", "()V"⟩
abbrev c_X8_init : ByteArray := prog_10_method_1_code
def y_X8_init : MethodName := ⟨RX8, "<init>", "()V"⟩
abbrev c_X3_init : ByteArray := prog_5_method_1_code
def y_X3_init : MethodName := ⟨RX3, "<init>", "()V"⟩
abbrev c_X2_init : ByteArray := prog_4_method_1_code
def y_X2_init : MethodName := ⟨RX2, "<init>", "()V"⟩
abbrev c_X7_init : ByteArray := prog_9_method_1_code
def y_X7_init : MethodName := ⟨RX7, "<init>", "()V"⟩
abbrev c_X9_clear : ByteArray := prog_1_method_2_code
def y_X9_clear : MethodName := ⟨RX9, "clear", "()V"⟩
abbrev c_X0_forget : ByteArray := prog_2_method_2_code
def y_X0_forget : MethodName := ⟨RX0, "forget", "()V"⟩
abbrev c_X7_forget : ByteArray := prog_9_method_2_code
def y_X7_forget : MethodName := ⟨RX7, "forget", "()V"⟩
abbrev c_X9_binding : ByteArray := prog_1_method_3_code
def y_X9_binding : MethodName := ⟨RX9, "binding", "(Z)I"⟩
abbrev c_X0_declare : ByteArray := prog_2_method_4_code
def y_X0_declare : MethodName := ⟨RX0, "declare", "(Z)I"⟩
abbrev c_X9_carry : ByteArray := prog_1_method_4_code
def y_X9_carry : MethodName := ⟨RX9, "carry", "(III)I"⟩
abbrev c_X0_has : ByteArray := prog_2_method_3_code
def y_X0_has : MethodName := ⟨RX0, "has", "(I)Z"⟩
abbrev c_X1_isFull : ByteArray := prog_3_method_2_code
def y_X1_isFull : MethodName := ⟨RX1, "isFull", "()Z"⟩
abbrev c_X0_addCarried : ByteArray := prog_2_method_6_code
def y_X0_addCarried : MethodName := ⟨RX0, "addCarried", "(III)V"⟩
abbrev c_X0_valueThatMatters : ByteArray := prog_2_method_5_code
def y_X0_valueThatMatters : MethodName := ⟨RX0, "valueThatMatters", "(II)I"⟩
abbrev c_X1_add : ByteArray := prog_3_method_3_code
def y_X1_add : MethodName := ⟨RX1, "add", "(II)V"⟩
abbrev c_X9_interceptor : ByteArray := prog_1_method_5_code
def y_X9_interceptor : MethodName := ⟨RX9, "interceptor", "(III)I"⟩
abbrev c_X9_isWithin : ByteArray := prog_1_method_19_code
def y_X9_isWithin : MethodName := ⟨RX9, "isWithin", "(II)Z"⟩
abbrev c_X6_declare : ByteArray := prog_8_method_2_code
def y_X6_declare : MethodName := ⟨RX6, "declare", "(III)V"⟩
abbrev c_X9_decorator : ByteArray := prog_1_method_6_code
def y_X9_decorator : MethodName := ⟨RX9, "decorator", "(IIII)I"⟩
abbrev c_X5_declare : ByteArray := prog_7_method_2_code
def y_X5_declare : MethodName := ⟨RX5, "declare", "(IIII)V"⟩
abbrev c_X9_component : ByteArray := prog_1_method_7_code
def y_X9_component : MethodName := ⟨RX9, "component", "(I)I"⟩
abbrev c_X4_declare : ByteArray := prog_6_method_2_code
def y_X4_declare : MethodName := ⟨RX4, "declare", "(I)V"⟩
abbrev c_X8_forget : ByteArray := prog_10_method_2_code
def y_X8_forget : MethodName := ⟨RX8, "forget", "()V"⟩
abbrev c_X9_bindInterceptor : ByteArray := prog_1_method_8_code
def y_X9_bindInterceptor : MethodName := ⟨RX9, "bindInterceptor", "(III)I"⟩
abbrev c_X9_isInterceptor : ByteArray := prog_1_method_20_code
def y_X9_isInterceptor : MethodName := ⟨RX9, "isInterceptor", "(I)Z"⟩
abbrev c_X9_addBinding : ByteArray := prog_1_method_24_code
def y_X9_addBinding : MethodName := ⟨RX9, "addBinding", "(LBoundChains$Bindings;II)I"⟩
abbrev c_X9_bind : ByteArray := prog_1_method_9_code
def y_X9_bind : MethodName := ⟨RX9, "bind", "(IIII)I"⟩
abbrev c_X9_isPlace : ByteArray := prog_1_method_22_code
def y_X9_isPlace : MethodName := ⟨RX9, "isPlace", "(II)Z"⟩
abbrev c_X9_isComponent : ByteArray := prog_1_method_21_code
def y_X9_isComponent : MethodName := ⟨RX9, "isComponent", "(I)Z"⟩
abbrev c_X4_place : ByteArray := prog_6_method_3_code
def y_X4_place : MethodName := ⟨RX4, "place", "(I)LBoundChains$Place;"⟩
abbrev c_X9_list : ByteArray := prog_1_method_10_code
def y_X9_list : MethodName := ⟨RX9, "list", "(III)I"⟩
abbrev c_X8_addListed : ByteArray := prog_10_method_3_code
def y_X8_addListed : MethodName := ⟨RX8, "addListed", "(I)V"⟩
abbrev c_X9_flags : ByteArray := prog_1_method_11_code
def y_X9_flags : MethodName := ⟨RX9, "flags", "(III)I"⟩
abbrev c_X9_deploy : ByteArray := prog_1_method_12_code
def y_X9_deploy : MethodName := ⟨RX9, "deploy", "()I"⟩
abbrev c_X9_findConflictOfInterceptor : ByteArray := prog_1_method_25_code
def y_X9_findConflictOfInterceptor : MethodName := ⟨RX9, "findConflictOfInterceptor", "()I"⟩
abbrev c_X9_hasConflict : ByteArray := prog_1_method_27_code
def y_X9_hasConflict : MethodName := ⟨RX9, "hasConflict", "(LBoundChains$Bindings;)Z"⟩
abbrev c_X0_close : ByteArray := prog_2_method_7_code
def y_X0_close : MethodName := ⟨RX0, "close", "(LBoundChains$Bindings;LBoundChains$Closure;)V"⟩
abbrev c_X3_forget : ByteArray := prog_5_method_2_code
def y_X3_forget : MethodName := ⟨RX3, "forget", "()V"⟩
abbrev c_X3_put : ByteArray := prog_5_method_3_code
def y_X3_put : MethodName := ⟨RX3, "put", "(II)V"⟩
abbrev c_X9_findConflictOfComponent : ByteArray := prog_1_method_26_code
def y_X9_findConflictOfComponent : MethodName := ⟨RX9, "findConflictOfComponent", "()I"⟩
abbrev c_X9_findFinalWithChain : ByteArray := prog_1_method_28_code
def y_X9_findFinalWithChain : MethodName := ⟨RX9, "findFinalWithChain", "()I"⟩
abbrev c_X8_has : ByteArray := prog_10_method_4_code
def y_X8_has : MethodName := ⟨RX8, "has", "(I)Z"⟩
abbrev c_X9_buildChain : ByteArray := prog_1_method_29_code
def y_X9_buildChain : MethodName := ⟨RX9, "buildChain", "(LBoundChains$Component;I)V"⟩
abbrev c_X9_appendListed : ByteArray := prog_1_method_31_code
def y_X9_appendListed : MethodName := ⟨RX9, "appendListed", "(LBoundChains$Place;I)V"⟩
abbrev c_X6_takesPartIn : ByteArray := prog_8_method_3_code
def y_X6_takesPartIn : MethodName := ⟨RX6, "takesPartIn", "(I)Z"⟩
abbrev c_X2_add : ByteArray := prog_4_method_2_code
def y_X2_add : MethodName := ⟨RX2, "add", "(II)V"⟩
abbrev c_X9_appendBound : ByteArray := prog_1_method_32_code
def y_X9_appendBound : MethodName := ⟨RX9, "appendBound", "(I)V"⟩
abbrev c_X9_isInForce : ByteArray := prog_1_method_33_code
def y_X9_isInForce : MethodName := ⟨RX9, "isInForce", "(LBoundChains$Bindings;)Z"⟩
abbrev c_X3_isAmong : ByteArray := prog_5_method_5_code
def y_X3_isAmong : MethodName := ⟨RX3, "isAmong", "(LBoundChains$Closure;)Z"⟩
abbrev c_X9_findInForceForMethod : ByteArray := prog_1_method_30_code
def y_X9_findInForceForMethod : MethodName := ⟨RX9, "findInForceForMethod", "(LBoundChains$Component;LBoundChains$Place;)V"⟩
abbrev c_X3_addMissingTypes : ByteArray := prog_5_method_4_code
def y_X3_addMissingTypes : MethodName := ⟨RX3, "addMissingTypes", "(LBoundChains$Closure;)V"⟩
abbrev c_X9_appendDecorators : ByteArray := prog_1_method_34_code
def y_X9_appendDecorators : MethodName := ⟨RX9, "appendDecorators", "(II)V"⟩
abbrev c_X5_decorates : ByteArray := prog_7_method_3_code
def y_X5_decorates : MethodName := ⟨RX5, "decorates", "(II)Z"⟩
abbrev c_X9_length : ByteArray := prog_1_method_13_code
def y_X9_length : MethodName := ⟨RX9, "length", "(II)I"⟩
abbrev c_X9_hasChain : ByteArray := prog_1_method_23_code
def y_X9_hasChain : MethodName := ⟨RX9, "hasChain", "(II)Z"⟩
abbrev c_X9_element : ByteArray := prog_1_method_14_code
def y_X9_element : MethodName := ⟨RX9, "element", "(III)I"⟩
abbrev c_X9_invoke : ByteArray := prog_1_method_15_code
def y_X9_invoke : MethodName := ⟨RX9, "invoke", "(III)I"⟩
abbrev c_X7_run : ByteArray := prog_9_method_3_code
def y_X7_run : MethodName := ⟨RX7, "run", "(LBoundChains$Chain;IIZ)V"⟩
abbrev c_X7_enter : ByteArray := prog_9_method_4_code
def y_X7_enter : MethodName := ⟨RX7, "enter", "(LBoundChains$Chain;II)I"⟩
abbrev c_X7_fail : ByteArray := prog_9_method_5_code
def y_X7_fail : MethodName := ⟨RX7, "fail", "(I)I"⟩
abbrev c_X7_reachTarget : ByteArray := prog_9_method_6_code
def y_X7_reachTarget : MethodName := ⟨RX7, "reachTarget", "(I)I"⟩
abbrev c_X7_behave : ByteArray := prog_9_method_7_code
def y_X7_behave : MethodName := ⟨RX7, "behave", "(LBoundChains$Chain;II)I"⟩
abbrev c_X7_proceedTwice : ByteArray := prog_9_method_9_code
def y_X7_proceedTwice : MethodName := ⟨RX7, "proceedTwice", "(LBoundChains$Chain;II)I"⟩
abbrev c_X7_proceed : ByteArray := prog_9_method_8_code
def y_X7_proceed : MethodName := ⟨RX7, "proceed", "(LBoundChains$Chain;II)I"⟩
abbrev c_X7_growShared : ByteArray := prog_9_method_10_code
def y_X7_growShared : MethodName := ⟨RX7, "growShared", "(LBoundChains$Chain;I)I"⟩
abbrev c_X7_proceedAndCatch : ByteArray := prog_9_method_11_code
def y_X7_proceedAndCatch : MethodName := ⟨RX7, "proceedAndCatch", "(LBoundChains$Chain;II)I"⟩
abbrev c_X9_result : ByteArray := prog_1_method_16_code
def y_X9_result : MethodName := ⟨RX9, "result", "()I"⟩
abbrev c_X9_error : ByteArray := prog_1_method_17_code
def y_X9_error : MethodName := ⟨RX9, "error", "()I"⟩
abbrev c_X9_log : ByteArray := prog_1_method_18_code
def y_X9_log : MethodName := ⟨RX9, "log", "(I)I"⟩
abbrev c_X10_init : ByteArray := prog_12_method_1_code
def y_X10_init : MethodName := ⟨RX10, "<init>", "()V"⟩
abbrev c_X10_clear : ByteArray := prog_12_method_2_code
def y_X10_clear : MethodName := ⟨RX10, "clear", "()V"⟩
abbrev c_X10_binding : ByteArray := prog_12_method_4_code
def y_X10_binding : MethodName := ⟨RX10, "binding", "(Z)I"⟩
abbrev c_X10_carry : ByteArray := prog_12_method_5_code
def y_X10_carry : MethodName := ⟨RX10, "carry", "(III)I"⟩
abbrev c_X10_within : ByteArray := prog_12_method_3_code
def y_X10_within : MethodName := ⟨RX10, "within", "(II)Z"⟩
abbrev c_X10_interceptor : ByteArray := prog_12_method_6_code
def y_X10_interceptor : MethodName := ⟨RX10, "interceptor", "(III)I"⟩
abbrev c_X10_decorator : ByteArray := prog_12_method_7_code
def y_X10_decorator : MethodName := ⟨RX10, "decorator", "(IIII)I"⟩
abbrev c_X10_component : ByteArray := prog_12_method_8_code
def y_X10_component : MethodName := ⟨RX10, "component", "(I)I"⟩
abbrev c_X10_bindInterceptor : ByteArray := prog_12_method_10_code
def y_X10_bindInterceptor : MethodName := ⟨RX10, "bindInterceptor", "(III)I"⟩
abbrev c_X10_bindRow : ByteArray := prog_12_method_9_code
def y_X10_bindRow : MethodName := ⟨RX10, "bindRow", "(III)I"⟩
abbrev c_X10_bind : ByteArray := prog_12_method_12_code
def y_X10_bind : MethodName := ⟨RX10, "bind", "(IIII)I"⟩
abbrev c_X10_rowOf : ByteArray := prog_12_method_11_code
def y_X10_rowOf : MethodName := ⟨RX10, "rowOf", "(II)I"⟩
abbrev c_X10_list : ByteArray := prog_12_method_13_code
def y_X10_list : MethodName := ⟨RX10, "list", "(III)I"⟩
abbrev c_X10_flags : ByteArray := prog_12_method_14_code
def y_X10_flags : MethodName := ⟨RX10, "flags", "(III)I"⟩
abbrev c_X10_deploy : ByteArray := prog_12_method_24_code
def y_X10_deploy : MethodName := ⟨RX10, "deploy", "()I"⟩
abbrev c_X10_conflict : ByteArray := prog_12_method_17_code
def y_X10_conflict : MethodName := ⟨RX10, "conflict", "(I)Z"⟩
abbrev c_X10_close : ByteArray := prog_12_method_16_code
def y_X10_close : MethodName := ⟨RX10, "close", "(I)V"⟩
abbrev c_X10_add : ByteArray := prog_12_method_15_code
def y_X10_add : MethodName := ⟨RX10, "add", "(II)V"⟩
abbrev c_X10_build : ByteArray := prog_12_method_23_code
def y_X10_build : MethodName := ⟨RX10, "build", "(II)V"⟩
abbrev c_X10_linkList : ByteArray := prog_12_method_22_code
def y_X10_linkList : MethodName := ⟨RX10, "linkList", "(II)V"⟩
abbrev c_X10_link : ByteArray := prog_12_method_21_code
def y_X10_link : MethodName := ⟨RX10, "link", "(II)V"⟩
abbrev c_X10_force : ByteArray := prog_12_method_19_code
def y_X10_force : MethodName := ⟨RX10, "force", "(II)V"⟩
abbrev c_X10_takeOver : ByteArray := prog_12_method_18_code
def y_X10_takeOver : MethodName := ⟨RX10, "takeOver", "(I)V"⟩
abbrev c_X10_isBound : ByteArray := prog_12_method_20_code
def y_X10_isBound : MethodName := ⟨RX10, "isBound", "(I)Z"⟩
abbrev c_X10_length : ByteArray := prog_12_method_26_code
def y_X10_length : MethodName := ⟨RX10, "length", "(II)I"⟩
abbrev c_X10_check : ByteArray := prog_12_method_25_code
def y_X10_check : MethodName := ⟨RX10, "check", "(II)I"⟩
abbrev c_X10_element : ByteArray := prog_12_method_27_code
def y_X10_element : MethodName := ⟨RX10, "element", "(III)I"⟩
abbrev c_X10_invoke : ByteArray := prog_12_method_32_code
def y_X10_invoke : MethodName := ⟨RX10, "invoke", "(III)I"⟩
abbrev c_X10_answer : ByteArray := prog_12_method_29_code
def y_X10_answer : MethodName := ⟨RX10, "answer", "(ZI)V"⟩
abbrev c_X10_enter : ByteArray := prog_12_method_30_code
def y_X10_enter : MethodName := ⟨RX10, "enter", "(III)Z"⟩
abbrev c_X10_behaviourOf : ByteArray := prog_12_method_28_code
def y_X10_behaviourOf : MethodName := ⟨RX10, "behaviourOf", "(I)I"⟩
abbrev c_X10_resume : ByteArray := prog_12_method_31_code
def y_X10_resume : MethodName := ⟨RX10, "resume", "(I)Z"⟩
abbrev c_X10_result : ByteArray := prog_12_method_33_code
def y_X10_result : MethodName := ⟨RX10, "result", "()I"⟩
abbrev c_X10_error : ByteArray := prog_12_method_34_code
def y_X10_error : MethodName := ⟨RX10, "error", "()I"⟩
abbrev c_X10_log : ByteArray := prog_12_method_35_code
def y_X10_log : MethodName := ⟨RX10, "log", "(I)I"⟩
end
section
/-- a field's link: pool number idx of class own is slot j of class number ci -/
def XFl (own : String) (idx ci j : Nat) : Prop := ∃ (C : String) (T : u_T) (N : Nat), vwCl[ci]? = some (C, T, N) ∧ j < N ∧ (∀ w ∈ u_ws C T N, w ∈ WA) ∧ Cond.fieldLink own idx (T j).1 (T j).2.1 (T j).2.2.1 ∈ WA
def XFp (own : String) (idx ci j : Nat) (ty : FieldType) : Prop := ∃ (C : String) (T : u_T) (N : Nat) (tf : Nat → FieldType), vwCl[ci]? = some (C, T, N) ∧ j < N ∧ (∀ w ∈ u_ws C T N, w ∈ WA) ∧ Cond.fieldLink own idx (T j).1 (T j).2.1 (T j).2.2.1 ∈ WA ∧ (∀ k, k < N → parseFieldDescriptor (T k).2.2.1 = some (tf k)) ∧ (∀ a, a < N → ∀ b, b < N → a ≠ b → (T a).2.1 ≠ (T b).2.1) ∧ (T j).2.2.2 = false ∧ parseFieldDescriptor (T j).2.2.1 = some ty
/-- the words of a call -/
def XCw (own : String) (idx : Nat) (y : MethodName) (cc : ByteArray) (mL : Nat) (ret : Option FieldType) (n : Nat) : Prop := Cond.methodLink own idx y ∈ WA ∧ Cond.code y cc mL ret ∈ WA ∧ Cond.initialized y.cls ∈ WA ∧ (y.cls ≠ "java/lang/invoke/MethodHandle" ∧ y.cls ≠ "java/lang/invoke/VarHandle" ∧ (parseMethodDescriptor y.desc).map (fun d => d.parameters.length) = some n) ∧ mL ≤ 21
def XCv (y : MethodName) : Prop := Cond.instanceMethod y ∈ WA ∧ Cond.selects y.cls y y ∈ WA
theorem kc_X9_init : Cond.code y_X9_init c_X9_init 2 none ∈ WA := wa_t 16 (by decide +kernel) rfl
theorem kc_X0_init : Cond.code y_X0_init c_X0_init 1 none ∈ WA := wa_t 24 (by decide +kernel) rfl
theorem kc_X1_init : Cond.code y_X1_init c_X1_init 2 none ∈ WA := wa_t 30 (by decide +kernel) rfl
theorem kc_X6_init : Cond.code y_X6_init c_X6_init 1 none ∈ WA := wa_t 70 (by decide +kernel) rfl
theorem kc_X5_init : Cond.code y_X5_init c_X5_init 1 none ∈ WA := wa_t 95 (by decide +kernel) rfl
theorem kc_X4_init : Cond.code y_X4_init c_X4_init 2 none ∈ WA := wa_t 117 (by decide +kernel) rfl
theorem kc_X8_init : Cond.code y_X8_init c_X8_init 1 none ∈ WA := wa_t 123 (by decide +kernel) rfl
theorem kc_X3_init : Cond.code y_X3_init c_X3_init 1 none ∈ WA := wa_t 161 (by decide +kernel) rfl
theorem kc_X2_init : Cond.code y_X2_init c_X2_init 1 none ∈ WA := wa_t 179 (by decide +kernel) rfl
theorem kc_X7_init : Cond.code y_X7_init c_X7_init 1 none ∈ WA := wa_t 200 (by decide +kernel) rfl
theorem kc_X9_clear : Cond.code y_X9_clear c_X9_clear 1 none ∈ WA := wa_t 268 (by decide +kernel) rfl
theorem kc_X0_forget : Cond.code y_X0_forget c_X0_forget 1 none ∈ WA := wa_t 272 (by decide +kernel) rfl
theorem kc_X7_forget : Cond.code y_X7_forget c_X7_forget 1 none ∈ WA := wa_t 276 (by decide +kernel) rfl
theorem kc_X9_binding : Cond.code y_X9_binding c_X9_binding 2 (some .int) ∈ WA := wa_t 280 (by decide +kernel) rfl
theorem kc_X0_declare : Cond.code y_X0_declare c_X0_declare 2 (some .int) ∈ WA := wa_t 284 (by decide +kernel) rfl
theorem kc_X9_carry : Cond.code y_X9_carry c_X9_carry 4 (some .int) ∈ WA := wa_t 288 (by decide +kernel) rfl
theorem kc_X0_has : Cond.code y_X0_has c_X0_has 2 (some .boolean) ∈ WA := wa_t 292 (by decide +kernel) rfl
theorem kc_X1_isFull : Cond.code y_X1_isFull c_X1_isFull 1 (some .boolean) ∈ WA := wa_t 296 (by decide +kernel) rfl
theorem kc_X0_addCarried : Cond.code y_X0_addCarried c_X0_addCarried 4 none ∈ WA := wa_t 300 (by decide +kernel) rfl
theorem kc_X0_valueThatMatters : Cond.code y_X0_valueThatMatters c_X0_valueThatMatters 3 (some .int) ∈ WA := wa_t 304 (by decide +kernel) rfl
theorem kc_X1_add : Cond.code y_X1_add c_X1_add 3 none ∈ WA := wa_t 308 (by decide +kernel) rfl
theorem kc_X9_interceptor : Cond.code y_X9_interceptor c_X9_interceptor 4 (some .int) ∈ WA := wa_t 313 (by decide +kernel) rfl
theorem kc_X9_isWithin : Cond.code y_X9_isWithin c_X9_isWithin 2 (some .boolean) ∈ WA := wa_t 316 (by decide +kernel) rfl
theorem kc_X6_declare : Cond.code y_X6_declare c_X6_declare 4 none ∈ WA := wa_t 320 (by decide +kernel) rfl
theorem kc_X9_decorator : Cond.code y_X9_decorator c_X9_decorator 5 (some .int) ∈ WA := wa_t 324 (by decide +kernel) rfl
theorem kc_X5_declare : Cond.code y_X5_declare c_X5_declare 5 none ∈ WA := wa_t 328 (by decide +kernel) rfl
theorem kc_X9_component : Cond.code y_X9_component c_X9_component 2 (some .int) ∈ WA := wa_t 332 (by decide +kernel) rfl
theorem kc_X4_declare : Cond.code y_X4_declare c_X4_declare 3 none ∈ WA := wa_t 336 (by decide +kernel) rfl
theorem kc_X8_forget : Cond.code y_X8_forget c_X8_forget 1 none ∈ WA := wa_t 340 (by decide +kernel) rfl
theorem kc_X9_bindInterceptor : Cond.code y_X9_bindInterceptor c_X9_bindInterceptor 4 (some .int) ∈ WA := wa_t 344 (by decide +kernel) rfl
theorem kc_X9_isInterceptor : Cond.code y_X9_isInterceptor c_X9_isInterceptor 2 (some .boolean) ∈ WA := wa_t 348 (by decide +kernel) rfl
theorem kc_X9_addBinding : Cond.code y_X9_addBinding c_X9_addBinding 4 (some .int) ∈ WA := wa_t 352 (by decide +kernel) rfl
theorem kc_X9_bind : Cond.code y_X9_bind c_X9_bind 5 (some .int) ∈ WA := wa_t 358 (by decide +kernel) rfl
theorem kc_X9_isPlace : Cond.code y_X9_isPlace c_X9_isPlace 3 (some .boolean) ∈ WA := wa_t 362 (by decide +kernel) rfl
theorem kc_X9_isComponent : Cond.code y_X9_isComponent c_X9_isComponent 2 (some .boolean) ∈ WA := wa_t 366 (by decide +kernel) rfl
theorem kc_X4_place : Cond.code y_X4_place c_X4_place 2 (some (.object "BoundChains$Place")) ∈ WA := wa_t 370 (by decide +kernel) rfl
theorem kc_X9_list : Cond.code y_X9_list c_X9_list 5 (some .int) ∈ WA := wa_t 374 (by decide +kernel) rfl
theorem kc_X8_addListed : Cond.code y_X8_addListed c_X8_addListed 2 none ∈ WA := wa_t 378 (by decide +kernel) rfl
theorem kc_X9_flags : Cond.code y_X9_flags c_X9_flags 4 (some .int) ∈ WA := wa_t 382 (by decide +kernel) rfl
theorem kc_X9_deploy : Cond.code y_X9_deploy c_X9_deploy 2 (some .int) ∈ WA := wa_t 386 (by decide +kernel) rfl
theorem kc_X9_findConflictOfInterceptor : Cond.code y_X9_findConflictOfInterceptor c_X9_findConflictOfInterceptor 2 (some .int) ∈ WA := wa_t 390 (by decide +kernel) rfl
theorem kc_X9_hasConflict : Cond.code y_X9_hasConflict c_X9_hasConflict 2 (some .boolean) ∈ WA := wa_t 394 (by decide +kernel) rfl
theorem kc_X0_close : Cond.code y_X0_close c_X0_close 5 none ∈ WA := wa_t 398 (by decide +kernel) rfl
theorem kc_X3_forget : Cond.code y_X3_forget c_X3_forget 2 none ∈ WA := wa_t 402 (by decide +kernel) rfl
theorem kc_X3_put : Cond.code y_X3_put c_X3_put 3 none ∈ WA := wa_t 406 (by decide +kernel) rfl
theorem kc_X9_findConflictOfComponent : Cond.code y_X9_findConflictOfComponent c_X9_findConflictOfComponent 3 (some .int) ∈ WA := wa_t 410 (by decide +kernel) rfl
theorem kc_X9_findFinalWithChain : Cond.code y_X9_findFinalWithChain c_X9_findFinalWithChain 3 (some .int) ∈ WA := wa_t 414 (by decide +kernel) rfl
theorem kc_X8_has : Cond.code y_X8_has c_X8_has 2 (some .boolean) ∈ WA := wa_t 418 (by decide +kernel) rfl
theorem kc_X9_buildChain : Cond.code y_X9_buildChain c_X9_buildChain 4 none ∈ WA := wa_t 422 (by decide +kernel) rfl
theorem kc_X9_appendListed : Cond.code y_X9_appendListed c_X9_appendListed 5 none ∈ WA := wa_t 426 (by decide +kernel) rfl
theorem kc_X6_takesPartIn : Cond.code y_X6_takesPartIn c_X6_takesPartIn 2 (some .boolean) ∈ WA := wa_t 430 (by decide +kernel) rfl
theorem kc_X2_add : Cond.code y_X2_add c_X2_add 3 none ∈ WA := wa_t 434 (by decide +kernel) rfl
theorem kc_X9_appendBound : Cond.code y_X9_appendBound c_X9_appendBound 5 none ∈ WA := wa_t 438 (by decide +kernel) rfl
theorem kc_X9_isInForce : Cond.code y_X9_isInForce c_X9_isInForce 2 (some .boolean) ∈ WA := wa_t 442 (by decide +kernel) rfl
theorem kc_X3_isAmong : Cond.code y_X3_isAmong c_X3_isAmong 3 (some .boolean) ∈ WA := wa_t 446 (by decide +kernel) rfl
theorem kc_X9_findInForceForMethod : Cond.code y_X9_findInForceForMethod c_X9_findInForceForMethod 3 none ∈ WA := wa_t 450 (by decide +kernel) rfl
theorem kc_X3_addMissingTypes : Cond.code y_X3_addMissingTypes c_X3_addMissingTypes 3 none ∈ WA := wa_t 454 (by decide +kernel) rfl
theorem kc_X9_appendDecorators : Cond.code y_X9_appendDecorators c_X9_appendDecorators 5 none ∈ WA := wa_t 459 (by decide +kernel) rfl
theorem kc_X5_decorates : Cond.code y_X5_decorates c_X5_decorates 3 (some .boolean) ∈ WA := wa_t 463 (by decide +kernel) rfl
theorem kc_X9_length : Cond.code y_X9_length c_X9_length 3 (some .int) ∈ WA := wa_t 467 (by decide +kernel) rfl
theorem kc_X9_hasChain : Cond.code y_X9_hasChain c_X9_hasChain 3 (some .boolean) ∈ WA := wa_t 471 (by decide +kernel) rfl
theorem kc_X9_element : Cond.code y_X9_element c_X9_element 4 (some .int) ∈ WA := wa_t 475 (by decide +kernel) rfl
theorem kc_X9_invoke : Cond.code y_X9_invoke c_X9_invoke 4 (some .int) ∈ WA := wa_t 479 (by decide +kernel) rfl
theorem kc_X7_run : Cond.code y_X7_run c_X7_run 6 none ∈ WA := wa_t 483 (by decide +kernel) rfl
theorem kc_X7_enter : Cond.code y_X7_enter c_X7_enter 5 (some .int) ∈ WA := wa_t 488 (by decide +kernel) rfl
theorem kc_X7_fail : Cond.code y_X7_fail c_X7_fail 2 (some .int) ∈ WA := wa_t 492 (by decide +kernel) rfl
theorem kc_X7_reachTarget : Cond.code y_X7_reachTarget c_X7_reachTarget 2 (some .int) ∈ WA := wa_t 496 (by decide +kernel) rfl
theorem kc_X7_behave : Cond.code y_X7_behave c_X7_behave 6 (some .int) ∈ WA := wa_t 500 (by decide +kernel) rfl
theorem kc_X7_proceedTwice : Cond.code y_X7_proceedTwice c_X7_proceedTwice 5 (some .int) ∈ WA := wa_t 504 (by decide +kernel) rfl
theorem kc_X7_proceed : Cond.code y_X7_proceed c_X7_proceed 5 (some .int) ∈ WA := wa_t 508 (by decide +kernel) rfl
theorem kc_X7_growShared : Cond.code y_X7_growShared c_X7_growShared 3 (some .int) ∈ WA := wa_t 512 (by decide +kernel) rfl
theorem kc_X7_proceedAndCatch : Cond.code y_X7_proceedAndCatch c_X7_proceedAndCatch 6 (some .int) ∈ WA := wa_t 516 (by decide +kernel) rfl
theorem kc_X9_result : Cond.code y_X9_result c_X9_result 1 (some .int) ∈ WA := wa_t 520 (by decide +kernel) rfl
theorem kc_X9_error : Cond.code y_X9_error c_X9_error 1 (some .int) ∈ WA := wa_t 524 (by decide +kernel) rfl
theorem kc_X9_log : Cond.code y_X9_log c_X9_log 2 (some .int) ∈ WA := wa_t 528 (by decide +kernel) rfl
theorem kc_X10_init : Cond.code y_X10_init c_X10_init 1 none ∈ WA := wa_t 533 (by decide +kernel) rfl
theorem kc_X10_clear : Cond.code y_X10_clear c_X10_clear 2 none ∈ WA := wa_t 665 (by decide +kernel) rfl
theorem kc_X10_binding : Cond.code y_X10_binding c_X10_binding 2 (some .int) ∈ WA := wa_t 669 (by decide +kernel) rfl
theorem kc_X10_carry : Cond.code y_X10_carry c_X10_carry 4 (some .int) ∈ WA := wa_t 673 (by decide +kernel) rfl
theorem kc_X10_within : Cond.code y_X10_within c_X10_within 2 (some .boolean) ∈ WA := wa_t 676 (by decide +kernel) rfl
theorem kc_X10_interceptor : Cond.code y_X10_interceptor c_X10_interceptor 4 (some .int) ∈ WA := wa_t 680 (by decide +kernel) rfl
theorem kc_X10_decorator : Cond.code y_X10_decorator c_X10_decorator 5 (some .int) ∈ WA := wa_t 684 (by decide +kernel) rfl
theorem kc_X10_component : Cond.code y_X10_component c_X10_component 2 (some .int) ∈ WA := wa_t 688 (by decide +kernel) rfl
theorem kc_X10_bindInterceptor : Cond.code y_X10_bindInterceptor c_X10_bindInterceptor 4 (some .int) ∈ WA := wa_t 692 (by decide +kernel) rfl
theorem kc_X10_bindRow : Cond.code y_X10_bindRow c_X10_bindRow 4 (some .int) ∈ WA := wa_t 696 (by decide +kernel) rfl
theorem kc_X10_bind : Cond.code y_X10_bind c_X10_bind 6 (some .int) ∈ WA := wa_t 700 (by decide +kernel) rfl
theorem kc_X10_rowOf : Cond.code y_X10_rowOf c_X10_rowOf 2 (some .int) ∈ WA := wa_t 703 (by decide +kernel) rfl
theorem kc_X10_list : Cond.code y_X10_list c_X10_list 5 (some .int) ∈ WA := wa_t 707 (by decide +kernel) rfl
theorem kc_X10_flags : Cond.code y_X10_flags c_X10_flags 4 (some .int) ∈ WA := wa_t 711 (by decide +kernel) rfl
theorem kc_X10_deploy : Cond.code y_X10_deploy c_X10_deploy 3 (some .int) ∈ WA := wa_t 715 (by decide +kernel) rfl
theorem kc_X10_conflict : Cond.code y_X10_conflict c_X10_conflict 5 (some .boolean) ∈ WA := wa_t 719 (by decide +kernel) rfl
theorem kc_X10_close : Cond.code y_X10_close c_X10_close 4 none ∈ WA := wa_t 723 (by decide +kernel) rfl
theorem kc_X10_add : Cond.code y_X10_add c_X10_add 4 none ∈ WA := wa_t 727 (by decide +kernel) rfl
theorem kc_X10_build : Cond.code y_X10_build c_X10_build 6 none ∈ WA := wa_t 731 (by decide +kernel) rfl
theorem kc_X10_linkList : Cond.code y_X10_linkList c_X10_linkList 4 none ∈ WA := wa_t 735 (by decide +kernel) rfl
theorem kc_X10_link : Cond.code y_X10_link c_X10_link 3 none ∈ WA := wa_t 739 (by decide +kernel) rfl
theorem kc_X10_force : Cond.code y_X10_force c_X10_force 3 none ∈ WA := wa_t 743 (by decide +kernel) rfl
theorem kc_X10_takeOver : Cond.code y_X10_takeOver c_X10_takeOver 5 none ∈ WA := wa_t 747 (by decide +kernel) rfl
theorem kc_X10_isBound : Cond.code y_X10_isBound c_X10_isBound 5 (some .boolean) ∈ WA := wa_t 751 (by decide +kernel) rfl
theorem kc_X10_length : Cond.code y_X10_length c_X10_length 4 (some .int) ∈ WA := wa_t 755 (by decide +kernel) rfl
theorem kc_X10_check : Cond.code y_X10_check c_X10_check 3 (some .int) ∈ WA := wa_t 759 (by decide +kernel) rfl
theorem kc_X10_element : Cond.code y_X10_element c_X10_element 5 (some .int) ∈ WA := wa_t 763 (by decide +kernel) rfl
theorem kc_X10_invoke : Cond.code y_X10_invoke c_X10_invoke 7 (some .int) ∈ WA := wa_t 767 (by decide +kernel) rfl
theorem kc_X10_answer : Cond.code y_X10_answer c_X10_answer 3 none ∈ WA := wa_t 771 (by decide +kernel) rfl
theorem kc_X10_enter : Cond.code y_X10_enter c_X10_enter 6 (some .boolean) ∈ WA := wa_t 775 (by decide +kernel) rfl
theorem kc_X10_behaviourOf : Cond.code y_X10_behaviourOf c_X10_behaviourOf 2 (some .int) ∈ WA := wa_t 779 (by decide +kernel) rfl
theorem kc_X10_resume : Cond.code y_X10_resume c_X10_resume 3 (some .boolean) ∈ WA := wa_t 783 (by decide +kernel) rfl
theorem kc_X10_result : Cond.code y_X10_result c_X10_result 1 (some .int) ∈ WA := wa_t 787 (by decide +kernel) rfl
theorem kc_X10_error : Cond.code y_X10_error c_X10_error 1 (some .int) ∈ WA := wa_t 791 (by decide +kernel) rfl
theorem kc_X10_log : Cond.code y_X10_log c_X10_log 2 (some .int) ∈ WA := wa_t 795 (by decide +kernel) rfl
theorem ki_X0 : Cond.initialized RX0 ∈ WA := wa_t 2 (by decide +kernel) rfl
theorem ki_X1 : Cond.initialized RX1 ∈ WA := wa_t 3 (by decide +kernel) rfl
theorem ki_X2 : Cond.initialized RX2 ∈ WA := wa_t 9 (by decide +kernel) rfl
theorem ki_X3 : Cond.initialized RX3 ∈ WA := wa_t 8 (by decide +kernel) rfl
theorem ki_X4 : Cond.initialized RX4 ∈ WA := wa_t 6 (by decide +kernel) rfl
theorem ki_X5 : Cond.initialized RX5 ∈ WA := wa_t 5 (by decide +kernel) rfl
theorem ki_X6 : Cond.initialized RX6 ∈ WA := wa_t 4 (by decide +kernel) rfl
theorem ki_X7 : Cond.initialized RX7 ∈ WA := wa_t 10 (by decide +kernel) rfl
theorem ki_X8 : Cond.initialized RX8 ∈ WA := wa_t 7 (by decide +kernel) rfl
theorem ki_X9 : Cond.initialized RX9 ∈ WA := wa_t 1 (by decide +kernel) rfl
theorem ki_X10 : Cond.initialized RX10 ∈ WA := wa_t 11 (by decide +kernel) rfl
theorem cv_X9_clear : XCv y_X9_clear := ⟨wa_t 266 (by decide +kernel) rfl, wa_t 267 (by decide +kernel) rfl⟩
theorem cv_X0_forget : XCv y_X0_forget := ⟨wa_t 270 (by decide +kernel) rfl, wa_t 271 (by decide +kernel) rfl⟩
theorem cv_X7_forget : XCv y_X7_forget := ⟨wa_t 274 (by decide +kernel) rfl, wa_t 275 (by decide +kernel) rfl⟩
theorem cv_X9_binding : XCv y_X9_binding := ⟨wa_t 278 (by decide +kernel) rfl, wa_t 279 (by decide +kernel) rfl⟩
theorem cv_X0_declare : XCv y_X0_declare := ⟨wa_t 282 (by decide +kernel) rfl, wa_t 283 (by decide +kernel) rfl⟩
theorem cv_X9_carry : XCv y_X9_carry := ⟨wa_t 286 (by decide +kernel) rfl, wa_t 287 (by decide +kernel) rfl⟩
theorem cv_X0_has : XCv y_X0_has := ⟨wa_t 290 (by decide +kernel) rfl, wa_t 291 (by decide +kernel) rfl⟩
theorem cv_X1_isFull : XCv y_X1_isFull := ⟨wa_t 294 (by decide +kernel) rfl, wa_t 295 (by decide +kernel) rfl⟩
theorem cv_X0_addCarried : XCv y_X0_addCarried := ⟨wa_t 298 (by decide +kernel) rfl, wa_t 299 (by decide +kernel) rfl⟩
theorem cv_X0_valueThatMatters : XCv y_X0_valueThatMatters := ⟨wa_t 302 (by decide +kernel) rfl, wa_t 303 (by decide +kernel) rfl⟩
theorem cv_X1_add : XCv y_X1_add := ⟨wa_t 306 (by decide +kernel) rfl, wa_t 307 (by decide +kernel) rfl⟩
theorem cv_X9_interceptor : XCv y_X9_interceptor := ⟨wa_t 311 (by decide +kernel) rfl, wa_t 312 (by decide +kernel) rfl⟩
theorem cs_X9_isWithin : Cond.static y_X9_isWithin ∈ WA := wa_t 315 (by decide +kernel) rfl
theorem cv_X6_declare : XCv y_X6_declare := ⟨wa_t 318 (by decide +kernel) rfl, wa_t 319 (by decide +kernel) rfl⟩
theorem cv_X9_decorator : XCv y_X9_decorator := ⟨wa_t 322 (by decide +kernel) rfl, wa_t 323 (by decide +kernel) rfl⟩
theorem cv_X5_declare : XCv y_X5_declare := ⟨wa_t 326 (by decide +kernel) rfl, wa_t 327 (by decide +kernel) rfl⟩
theorem cv_X9_component : XCv y_X9_component := ⟨wa_t 330 (by decide +kernel) rfl, wa_t 331 (by decide +kernel) rfl⟩
theorem cv_X4_declare : XCv y_X4_declare := ⟨wa_t 334 (by decide +kernel) rfl, wa_t 335 (by decide +kernel) rfl⟩
theorem cv_X8_forget : XCv y_X8_forget := ⟨wa_t 338 (by decide +kernel) rfl, wa_t 339 (by decide +kernel) rfl⟩
theorem cv_X9_bindInterceptor : XCv y_X9_bindInterceptor := ⟨wa_t 342 (by decide +kernel) rfl, wa_t 343 (by decide +kernel) rfl⟩
theorem cv_X9_isInterceptor : XCv y_X9_isInterceptor := ⟨wa_t 347 (by decide +kernel) rfl, wa_s (q := (y_X9_isInterceptor, 12)) 0 (by decide +kernel)⟩
theorem cv_X9_addBinding : XCv y_X9_addBinding := ⟨wa_t 351 (by decide +kernel) rfl, wa_s (q := (y_X9_addBinding, 12)) 1 (by decide +kernel)⟩
theorem cv_X9_bind : XCv y_X9_bind := ⟨wa_t 356 (by decide +kernel) rfl, wa_t 357 (by decide +kernel) rfl⟩
theorem cv_X9_isPlace : XCv y_X9_isPlace := ⟨wa_t 361 (by decide +kernel) rfl, wa_s (q := (y_X9_isPlace, 12)) 2 (by decide +kernel)⟩
theorem cv_X9_isComponent : XCv y_X9_isComponent := ⟨wa_t 365 (by decide +kernel) rfl, wa_s (q := (y_X9_isComponent, 12)) 3 (by decide +kernel)⟩
theorem cv_X4_place : XCv y_X4_place := ⟨wa_t 368 (by decide +kernel) rfl, wa_t 369 (by decide +kernel) rfl⟩
theorem cv_X9_list : XCv y_X9_list := ⟨wa_t 372 (by decide +kernel) rfl, wa_t 373 (by decide +kernel) rfl⟩
theorem cv_X8_addListed : XCv y_X8_addListed := ⟨wa_t 376 (by decide +kernel) rfl, wa_t 377 (by decide +kernel) rfl⟩
theorem cv_X9_flags : XCv y_X9_flags := ⟨wa_t 380 (by decide +kernel) rfl, wa_t 381 (by decide +kernel) rfl⟩
theorem cv_X9_deploy : XCv y_X9_deploy := ⟨wa_t 384 (by decide +kernel) rfl, wa_t 385 (by decide +kernel) rfl⟩
theorem cv_X9_findConflictOfInterceptor : XCv y_X9_findConflictOfInterceptor := ⟨wa_t 389 (by decide +kernel) rfl, wa_s (q := (y_X9_findConflictOfInterceptor, 12)) 4 (by decide +kernel)⟩
theorem cv_X9_hasConflict : XCv y_X9_hasConflict := ⟨wa_t 393 (by decide +kernel) rfl, wa_s (q := (y_X9_hasConflict, 12)) 5 (by decide +kernel)⟩
theorem cv_X0_close : XCv y_X0_close := ⟨wa_t 396 (by decide +kernel) rfl, wa_t 397 (by decide +kernel) rfl⟩
theorem cv_X3_forget : XCv y_X3_forget := ⟨wa_t 400 (by decide +kernel) rfl, wa_t 401 (by decide +kernel) rfl⟩
theorem cv_X3_put : XCv y_X3_put := ⟨wa_t 404 (by decide +kernel) rfl, wa_t 405 (by decide +kernel) rfl⟩
theorem cv_X9_findConflictOfComponent : XCv y_X9_findConflictOfComponent := ⟨wa_t 409 (by decide +kernel) rfl, wa_s (q := (y_X9_findConflictOfComponent, 12)) 6 (by decide +kernel)⟩
theorem cv_X9_findFinalWithChain : XCv y_X9_findFinalWithChain := ⟨wa_t 413 (by decide +kernel) rfl, wa_s (q := (y_X9_findFinalWithChain, 12)) 7 (by decide +kernel)⟩
theorem cv_X8_has : XCv y_X8_has := ⟨wa_t 416 (by decide +kernel) rfl, wa_t 417 (by decide +kernel) rfl⟩
theorem cv_X9_buildChain : XCv y_X9_buildChain := ⟨wa_t 421 (by decide +kernel) rfl, wa_s (q := (y_X9_buildChain, 12)) 8 (by decide +kernel)⟩
theorem cv_X9_appendListed : XCv y_X9_appendListed := ⟨wa_t 425 (by decide +kernel) rfl, wa_s (q := (y_X9_appendListed, 12)) 9 (by decide +kernel)⟩
theorem cv_X6_takesPartIn : XCv y_X6_takesPartIn := ⟨wa_t 428 (by decide +kernel) rfl, wa_t 429 (by decide +kernel) rfl⟩
theorem cv_X2_add : XCv y_X2_add := ⟨wa_t 432 (by decide +kernel) rfl, wa_t 433 (by decide +kernel) rfl⟩
theorem cv_X9_appendBound : XCv y_X9_appendBound := ⟨wa_t 437 (by decide +kernel) rfl, wa_s (q := (y_X9_appendBound, 12)) 10 (by decide +kernel)⟩
theorem cv_X9_isInForce : XCv y_X9_isInForce := ⟨wa_t 441 (by decide +kernel) rfl, wa_s (q := (y_X9_isInForce, 12)) 11 (by decide +kernel)⟩
theorem cv_X3_isAmong : XCv y_X3_isAmong := ⟨wa_t 444 (by decide +kernel) rfl, wa_t 445 (by decide +kernel) rfl⟩
theorem cv_X9_findInForceForMethod : XCv y_X9_findInForceForMethod := ⟨wa_t 449 (by decide +kernel) rfl, wa_s (q := (y_X9_findInForceForMethod, 12)) 12 (by decide +kernel)⟩
theorem cv_X3_addMissingTypes : XCv y_X3_addMissingTypes := ⟨wa_t 452 (by decide +kernel) rfl, wa_t 453 (by decide +kernel) rfl⟩
theorem cv_X9_appendDecorators : XCv y_X9_appendDecorators := ⟨wa_t 458 (by decide +kernel) rfl, wa_s (q := (y_X9_appendDecorators, 12)) 13 (by decide +kernel)⟩
theorem cv_X5_decorates : XCv y_X5_decorates := ⟨wa_t 461 (by decide +kernel) rfl, wa_t 462 (by decide +kernel) rfl⟩
theorem cv_X9_length : XCv y_X9_length := ⟨wa_t 465 (by decide +kernel) rfl, wa_t 466 (by decide +kernel) rfl⟩
theorem cv_X9_hasChain : XCv y_X9_hasChain := ⟨wa_t 470 (by decide +kernel) rfl, wa_s (q := (y_X9_hasChain, 12)) 14 (by decide +kernel)⟩
theorem cv_X9_element : XCv y_X9_element := ⟨wa_t 473 (by decide +kernel) rfl, wa_t 474 (by decide +kernel) rfl⟩
theorem cv_X9_invoke : XCv y_X9_invoke := ⟨wa_t 477 (by decide +kernel) rfl, wa_t 478 (by decide +kernel) rfl⟩
theorem cv_X7_run : XCv y_X7_run := ⟨wa_t 481 (by decide +kernel) rfl, wa_t 482 (by decide +kernel) rfl⟩
theorem cv_X7_enter : XCv y_X7_enter := ⟨wa_t 487 (by decide +kernel) rfl, wa_s (q := (y_X7_enter, 7)) 15 (by decide +kernel)⟩
theorem cv_X7_fail : XCv y_X7_fail := ⟨wa_t 491 (by decide +kernel) rfl, wa_s (q := (y_X7_fail, 7)) 16 (by decide +kernel)⟩
theorem cv_X7_reachTarget : XCv y_X7_reachTarget := ⟨wa_t 495 (by decide +kernel) rfl, wa_s (q := (y_X7_reachTarget, 7)) 17 (by decide +kernel)⟩
theorem cv_X7_behave : XCv y_X7_behave := ⟨wa_t 499 (by decide +kernel) rfl, wa_s (q := (y_X7_behave, 7)) 18 (by decide +kernel)⟩
theorem cv_X7_proceedTwice : XCv y_X7_proceedTwice := ⟨wa_t 503 (by decide +kernel) rfl, wa_s (q := (y_X7_proceedTwice, 7)) 19 (by decide +kernel)⟩
theorem cv_X7_proceed : XCv y_X7_proceed := ⟨wa_t 507 (by decide +kernel) rfl, wa_s (q := (y_X7_proceed, 7)) 20 (by decide +kernel)⟩
theorem cv_X7_growShared : XCv y_X7_growShared := ⟨wa_t 511 (by decide +kernel) rfl, wa_s (q := (y_X7_growShared, 7)) 21 (by decide +kernel)⟩
theorem cv_X7_proceedAndCatch : XCv y_X7_proceedAndCatch := ⟨wa_t 515 (by decide +kernel) rfl, wa_s (q := (y_X7_proceedAndCatch, 7)) 22 (by decide +kernel)⟩
theorem cv_X9_result : XCv y_X9_result := ⟨wa_t 518 (by decide +kernel) rfl, wa_t 519 (by decide +kernel) rfl⟩
theorem cv_X9_error : XCv y_X9_error := ⟨wa_t 522 (by decide +kernel) rfl, wa_t 523 (by decide +kernel) rfl⟩
theorem cv_X9_log : XCv y_X9_log := ⟨wa_t 526 (by decide +kernel) rfl, wa_t 527 (by decide +kernel) rfl⟩
theorem cv_X10_clear : XCv y_X10_clear := ⟨wa_t 663 (by decide +kernel) rfl, wa_t 664 (by decide +kernel) rfl⟩
theorem cv_X10_binding : XCv y_X10_binding := ⟨wa_t 667 (by decide +kernel) rfl, wa_t 668 (by decide +kernel) rfl⟩
theorem cv_X10_carry : XCv y_X10_carry := ⟨wa_t 671 (by decide +kernel) rfl, wa_t 672 (by decide +kernel) rfl⟩
theorem cs_X10_within : Cond.static y_X10_within ∈ WA := wa_t 675 (by decide +kernel) rfl
theorem cv_X10_interceptor : XCv y_X10_interceptor := ⟨wa_t 678 (by decide +kernel) rfl, wa_t 679 (by decide +kernel) rfl⟩
theorem cv_X10_decorator : XCv y_X10_decorator := ⟨wa_t 682 (by decide +kernel) rfl, wa_t 683 (by decide +kernel) rfl⟩
theorem cv_X10_component : XCv y_X10_component := ⟨wa_t 686 (by decide +kernel) rfl, wa_t 687 (by decide +kernel) rfl⟩
theorem cv_X10_bindInterceptor : XCv y_X10_bindInterceptor := ⟨wa_t 690 (by decide +kernel) rfl, wa_t 691 (by decide +kernel) rfl⟩
theorem cv_X10_bindRow : XCv y_X10_bindRow := ⟨wa_t 695 (by decide +kernel) rfl, wa_s (q := (y_X10_bindRow, 42)) 23 (by decide +kernel)⟩
theorem cv_X10_bind : XCv y_X10_bind := ⟨wa_t 698 (by decide +kernel) rfl, wa_t 699 (by decide +kernel) rfl⟩
theorem cs_X10_rowOf : Cond.static y_X10_rowOf ∈ WA := wa_t 702 (by decide +kernel) rfl
theorem cv_X10_list : XCv y_X10_list := ⟨wa_t 705 (by decide +kernel) rfl, wa_t 706 (by decide +kernel) rfl⟩
theorem cv_X10_flags : XCv y_X10_flags := ⟨wa_t 709 (by decide +kernel) rfl, wa_t 710 (by decide +kernel) rfl⟩
theorem cv_X10_deploy : XCv y_X10_deploy := ⟨wa_t 713 (by decide +kernel) rfl, wa_t 714 (by decide +kernel) rfl⟩
theorem cv_X10_conflict : XCv y_X10_conflict := ⟨wa_t 718 (by decide +kernel) rfl, wa_s (q := (y_X10_conflict, 42)) 24 (by decide +kernel)⟩
theorem cv_X10_close : XCv y_X10_close := ⟨wa_t 722 (by decide +kernel) rfl, wa_s (q := (y_X10_close, 42)) 25 (by decide +kernel)⟩
theorem cv_X10_add : XCv y_X10_add := ⟨wa_t 726 (by decide +kernel) rfl, wa_s (q := (y_X10_add, 42)) 26 (by decide +kernel)⟩
theorem cv_X10_build : XCv y_X10_build := ⟨wa_t 730 (by decide +kernel) rfl, wa_s (q := (y_X10_build, 42)) 27 (by decide +kernel)⟩
theorem cv_X10_linkList : XCv y_X10_linkList := ⟨wa_t 734 (by decide +kernel) rfl, wa_s (q := (y_X10_linkList, 42)) 28 (by decide +kernel)⟩
theorem cv_X10_link : XCv y_X10_link := ⟨wa_t 738 (by decide +kernel) rfl, wa_s (q := (y_X10_link, 42)) 29 (by decide +kernel)⟩
theorem cv_X10_force : XCv y_X10_force := ⟨wa_t 742 (by decide +kernel) rfl, wa_s (q := (y_X10_force, 42)) 30 (by decide +kernel)⟩
theorem cv_X10_takeOver : XCv y_X10_takeOver := ⟨wa_t 746 (by decide +kernel) rfl, wa_s (q := (y_X10_takeOver, 42)) 31 (by decide +kernel)⟩
theorem cv_X10_isBound : XCv y_X10_isBound := ⟨wa_t 750 (by decide +kernel) rfl, wa_s (q := (y_X10_isBound, 42)) 32 (by decide +kernel)⟩
theorem cv_X10_length : XCv y_X10_length := ⟨wa_t 753 (by decide +kernel) rfl, wa_t 754 (by decide +kernel) rfl⟩
theorem cv_X10_check : XCv y_X10_check := ⟨wa_t 758 (by decide +kernel) rfl, wa_s (q := (y_X10_check, 42)) 33 (by decide +kernel)⟩
theorem cv_X10_element : XCv y_X10_element := ⟨wa_t 761 (by decide +kernel) rfl, wa_t 762 (by decide +kernel) rfl⟩
theorem cv_X10_invoke : XCv y_X10_invoke := ⟨wa_t 765 (by decide +kernel) rfl, wa_t 766 (by decide +kernel) rfl⟩
theorem cv_X10_answer : XCv y_X10_answer := ⟨wa_t 770 (by decide +kernel) rfl, wa_s (q := (y_X10_answer, 42)) 34 (by decide +kernel)⟩
theorem cv_X10_enter : XCv y_X10_enter := ⟨wa_t 774 (by decide +kernel) rfl, wa_s (q := (y_X10_enter, 42)) 35 (by decide +kernel)⟩
theorem cv_X10_behaviourOf : XCv y_X10_behaviourOf := ⟨wa_t 778 (by decide +kernel) rfl, wa_s (q := (y_X10_behaviourOf, 42)) 36 (by decide +kernel)⟩
theorem cv_X10_resume : XCv y_X10_resume := ⟨wa_t 782 (by decide +kernel) rfl, wa_s (q := (y_X10_resume, 42)) 37 (by decide +kernel)⟩
theorem cv_X10_result : XCv y_X10_result := ⟨wa_t 785 (by decide +kernel) rfl, wa_t 786 (by decide +kernel) rfl⟩
theorem cv_X10_error : XCv y_X10_error := ⟨wa_t 789 (by decide +kernel) rfl, wa_t 790 (by decide +kernel) rfl⟩
theorem cv_X10_log : XCv y_X10_log := ⟨wa_t 793 (by decide +kernel) rfl, wa_t 794 (by decide +kernel) rfl⟩
theorem fl_X1_16 : XFl RX1 16 1 0 := ⟨RX1, TX1, 3, rfl, by decide, inX1, wa_t 32 (by decide +kernel) rfl⟩
theorem fp_X1_16 : XFp RX1 16 1 0 .int := ⟨RX1, TX1, 3, tyX1, rfl, by decide, inX1, wa_t 32 (by decide +kernel) rfl, okX1, nmX1, rfl, by decide +kernel⟩
theorem fl_X8_24 : XFl RX8 24 1 0 := ⟨RX1, TX1, 3, rfl, by decide, inX1, wa_t 33 (by decide +kernel) rfl⟩
theorem fp_X8_24 : XFp RX8 24 1 0 .int := ⟨RX1, TX1, 3, tyX1, rfl, by decide, inX1, wa_t 33 (by decide +kernel) rfl, okX1, nmX1, rfl, by decide +kernel⟩
theorem fl_X0_32 : XFl RX0 32 1 0 := ⟨RX1, TX1, 3, rfl, by decide, inX1, wa_t 34 (by decide +kernel) rfl⟩
theorem fp_X0_32 : XFp RX0 32 1 0 .int := ⟨RX1, TX1, 3, tyX1, rfl, by decide, inX1, wa_t 34 (by decide +kernel) rfl, okX1, nmX1, rfl, by decide +kernel⟩
theorem fl_X6_30 : XFl RX6 30 1 0 := ⟨RX1, TX1, 3, rfl, by decide, inX1, wa_t 35 (by decide +kernel) rfl⟩
theorem fp_X6_30 : XFp RX6 30 1 0 .int := ⟨RX1, TX1, 3, tyX1, rfl, by decide, inX1, wa_t 35 (by decide +kernel) rfl, okX1, nmX1, rfl, by decide +kernel⟩
theorem fl_X9_246 : XFl RX9 246 1 0 := ⟨RX1, TX1, 3, rfl, by decide, inX1, wa_t 36 (by decide +kernel) rfl⟩
theorem fp_X9_246 : XFp RX9 246 1 0 .int := ⟨RX1, TX1, 3, tyX1, rfl, by decide, inX1, wa_t 36 (by decide +kernel) rfl, okX1, nmX1, rfl, by decide +kernel⟩
theorem fl_X1_7 : XFl RX1 7 1 1 := ⟨RX1, TX1, 3, rfl, by decide, inX1, wa_t 37 (by decide +kernel) rfl⟩
theorem fl_X0_46 : XFl RX0 46 1 1 := ⟨RX1, TX1, 3, rfl, by decide, inX1, wa_t 38 (by decide +kernel) rfl⟩
theorem fl_X1_13 : XFl RX1 13 1 2 := ⟨RX1, TX1, 3, rfl, by decide, inX1, wa_t 39 (by decide +kernel) rfl⟩
theorem fl_X0_49 : XFl RX0 49 1 2 := ⟨RX1, TX1, 3, rfl, by decide, inX1, wa_t 40 (by decide +kernel) rfl⟩
theorem fl_X0_28 : XFl RX0 28 0 0 := ⟨RX0, TX0, 4, rfl, by decide, inX0, wa_t 50 (by decide +kernel) rfl⟩
theorem fp_X0_28 : XFp RX0 28 0 0 .int := ⟨RX0, TX0, 4, tyX0, rfl, by decide, inX0, wa_t 50 (by decide +kernel) rfl, okX0, nmX0, rfl, by decide +kernel⟩
theorem fl_X9_79 : XFl RX9 79 0 0 := ⟨RX0, TX0, 4, rfl, by decide, inX0, wa_t 51 (by decide +kernel) rfl⟩
theorem fp_X9_79 : XFp RX9 79 0 0 .int := ⟨RX0, TX0, 4, tyX0, rfl, by decide, inX0, wa_t 51 (by decide +kernel) rfl, okX0, nmX0, rfl, by decide +kernel⟩
theorem fl_X0_9 : XFl RX0 9 0 1 := ⟨RX0, TX0, 4, rfl, by decide, inX0, wa_t 52 (by decide +kernel) rfl⟩
theorem fl_X0_15 : XFl RX0 15 0 2 := ⟨RX0, TX0, 4, rfl, by decide, inX0, wa_t 53 (by decide +kernel) rfl⟩
theorem fl_X0_24 : XFl RX0 24 0 3 := ⟨RX0, TX0, 4, rfl, by decide, inX0, wa_t 54 (by decide +kernel) rfl⟩
theorem fl_X9_90 : XFl RX9 90 0 3 := ⟨RX0, TX0, 4, rfl, by decide, inX0, wa_t 55 (by decide +kernel) rfl⟩
theorem fl_X6_20 : XFl RX6 20 6 0 := ⟨RX6, TX6, 4, rfl, by decide, inX6, wa_t 74 (by decide +kernel) rfl⟩
theorem fp_X6_20 : XFp RX6 20 6 0 .int := ⟨RX6, TX6, 4, tyX6, rfl, by decide, inX6, wa_t 74 (by decide +kernel) rfl, okX6, nmX6, rfl, by decide +kernel⟩
theorem fl_X9_240 : XFl RX9 240 6 0 := ⟨RX6, TX6, 4, rfl, by decide, inX6, wa_t 75 (by decide +kernel) rfl⟩
theorem fp_X9_240 : XFp RX9 240 6 0 .int := ⟨RX6, TX6, 4, tyX6, rfl, by decide, inX6, wa_t 75 (by decide +kernel) rfl, okX6, nmX6, rfl, by decide +kernel⟩
theorem fl_X6_24 : XFl RX6 24 6 1 := ⟨RX6, TX6, 4, rfl, by decide, inX6, wa_t 76 (by decide +kernel) rfl⟩
theorem fp_X6_24 : XFp RX6 24 6 1 .int := ⟨RX6, TX6, 4, tyX6, rfl, by decide, inX6, wa_t 76 (by decide +kernel) rfl, okX6, nmX6, rfl, by decide +kernel⟩
theorem fl_X6_27 : XFl RX6 27 6 2 := ⟨RX6, TX6, 4, rfl, by decide, inX6, wa_t 77 (by decide +kernel) rfl⟩
theorem fp_X6_27 : XFp RX6 27 6 2 .int := ⟨RX6, TX6, 4, tyX6, rfl, by decide, inX6, wa_t 77 (by decide +kernel) rfl, okX6, nmX6, rfl, by decide +kernel⟩
theorem fl_X9_237 : XFl RX9 237 6 2 := ⟨RX6, TX6, 4, rfl, by decide, inX6, wa_t 78 (by decide +kernel) rfl⟩
theorem fp_X9_237 : XFp RX9 237 6 2 .int := ⟨RX6, TX6, 4, tyX6, rfl, by decide, inX6, wa_t 78 (by decide +kernel) rfl, okX6, nmX6, rfl, by decide +kernel⟩
theorem fl_X6_14 : XFl RX6 14 6 3 := ⟨RX6, TX6, 4, rfl, by decide, inX6, wa_t 79 (by decide +kernel) rfl⟩
theorem fl_X9_119 : XFl RX9 119 6 3 := ⟨RX6, TX6, 4, rfl, by decide, inX6, wa_t 80 (by decide +kernel) rfl⟩
theorem fl_X5_7 : XFl RX5 7 5 0 := ⟨RX5, TX5, 4, rfl, by decide, inX5, wa_t 97 (by decide +kernel) rfl⟩
theorem fp_X5_7 : XFp RX5 7 5 0 .int := ⟨RX5, TX5, 4, tyX5, rfl, by decide, inX5, wa_t 97 (by decide +kernel) rfl, okX5, nmX5, rfl, by decide +kernel⟩
theorem fl_X9_251 : XFl RX9 251 5 0 := ⟨RX5, TX5, 4, rfl, by decide, inX5, wa_t 98 (by decide +kernel) rfl⟩
theorem fp_X9_251 : XFp RX9 251 5 0 .int := ⟨RX5, TX5, 4, tyX5, rfl, by decide, inX5, wa_t 98 (by decide +kernel) rfl, okX5, nmX5, rfl, by decide +kernel⟩
theorem fl_X5_13 : XFl RX5 13 5 1 := ⟨RX5, TX5, 4, rfl, by decide, inX5, wa_t 99 (by decide +kernel) rfl⟩
theorem fp_X5_13 : XFp RX5 13 5 1 .int := ⟨RX5, TX5, 4, tyX5, rfl, by decide, inX5, wa_t 99 (by decide +kernel) rfl, okX5, nmX5, rfl, by decide +kernel⟩
theorem fl_X5_16 : XFl RX5 16 5 2 := ⟨RX5, TX5, 4, rfl, by decide, inX5, wa_t 100 (by decide +kernel) rfl⟩
theorem fp_X5_16 : XFp RX5 16 5 2 .int := ⟨RX5, TX5, 4, tyX5, rfl, by decide, inX5, wa_t 100 (by decide +kernel) rfl, okX5, nmX5, rfl, by decide +kernel⟩
theorem fl_X5_19 : XFl RX5 19 5 3 := ⟨RX5, TX5, 4, rfl, by decide, inX5, wa_t 101 (by decide +kernel) rfl⟩
theorem fp_X5_19 : XFp RX5 19 5 3 .int := ⟨RX5, TX5, 4, tyX5, rfl, by decide, inX5, wa_t 101 (by decide +kernel) rfl, okX5, nmX5, rfl, by decide +kernel⟩
theorem fl_X9_255 : XFl RX9 255 5 3 := ⟨RX5, TX5, 4, rfl, by decide, inX5, wa_t 102 (by decide +kernel) rfl⟩
theorem fp_X9_255 : XFp RX9 255 5 3 .int := ⟨RX5, TX5, 4, tyX5, rfl, by decide, inX5, wa_t 102 (by decide +kernel) rfl, okX5, nmX5, rfl, by decide +kernel⟩
theorem fl_X8_14 : XFl RX8 14 8 0 := ⟨RX8, TX8, 4, rfl, by decide, inX8, wa_t 127 (by decide +kernel) rfl⟩
theorem fl_X9_133 : XFl RX9 133 8 0 := ⟨RX8, TX8, 4, rfl, by decide, inX8, wa_t 128 (by decide +kernel) rfl⟩
theorem fl_X8_20 : XFl RX8 20 8 1 := ⟨RX8, TX8, 4, rfl, by decide, inX8, wa_t 129 (by decide +kernel) rfl⟩
theorem fl_X9_231 : XFl RX9 231 8 1 := ⟨RX8, TX8, 4, rfl, by decide, inX8, wa_t 130 (by decide +kernel) rfl⟩
theorem fl_X8_28 : XFl RX8 28 8 2 := ⟨RX8, TX8, 4, rfl, by decide, inX8, wa_t 131 (by decide +kernel) rfl⟩
theorem fp_X8_28 : XFp RX8 28 8 2 .int := ⟨RX8, TX8, 4, tyX8, rfl, by decide, inX8, wa_t 131 (by decide +kernel) rfl, okX8, nmX8, rfl, by decide +kernel⟩
theorem fl_X9_136 : XFl RX9 136 8 2 := ⟨RX8, TX8, 4, rfl, by decide, inX8, wa_t 132 (by decide +kernel) rfl⟩
theorem fp_X9_136 : XFp RX9 136 8 2 .int := ⟨RX8, TX8, 4, tyX8, rfl, by decide, inX8, wa_t 132 (by decide +kernel) rfl, okX8, nmX8, rfl, by decide +kernel⟩
theorem fl_X8_31 : XFl RX8 31 8 3 := ⟨RX8, TX8, 4, rfl, by decide, inX8, wa_t 133 (by decide +kernel) rfl⟩
theorem fp_X8_31 : XFp RX8 31 8 3 .int := ⟨RX8, TX8, 4, tyX8, rfl, by decide, inX8, wa_t 133 (by decide +kernel) rfl, okX8, nmX8, rfl, by decide +kernel⟩
theorem fl_X9_142 : XFl RX9 142 8 3 := ⟨RX8, TX8, 4, rfl, by decide, inX8, wa_t 134 (by decide +kernel) rfl⟩
theorem fp_X9_142 : XFp RX9 142 8 3 .int := ⟨RX8, TX8, 4, tyX8, rfl, by decide, inX8, wa_t 134 (by decide +kernel) rfl, okX8, nmX8, rfl, by decide +kernel⟩
theorem fl_X4_22 : XFl RX4 22 4 0 := ⟨RX4, TX4, 3, rfl, by decide, inX4, wa_t 145 (by decide +kernel) rfl⟩
theorem fp_X4_22 : XFp RX4 22 4 0 .int := ⟨RX4, TX4, 3, tyX4, rfl, by decide, inX4, wa_t 145 (by decide +kernel) rfl, okX4, nmX4, rfl, by decide +kernel⟩
theorem fl_X9_221 : XFl RX9 221 4 0 := ⟨RX4, TX4, 3, rfl, by decide, inX4, wa_t 146 (by decide +kernel) rfl⟩
theorem fp_X9_221 : XFp RX9 221 4 0 .int := ⟨RX4, TX4, 3, tyX4, rfl, by decide, inX4, wa_t 146 (by decide +kernel) rfl, okX4, nmX4, rfl, by decide +kernel⟩
theorem fl_X4_12 : XFl RX4 12 4 1 := ⟨RX4, TX4, 3, rfl, by decide, inX4, wa_t 147 (by decide +kernel) rfl⟩
theorem fl_X9_199 : XFl RX9 199 4 1 := ⟨RX4, TX4, 3, rfl, by decide, inX4, wa_t 148 (by decide +kernel) rfl⟩
theorem fl_X4_18 : XFl RX4 18 4 2 := ⟨RX4, TX4, 3, rfl, by decide, inX4, wa_t 149 (by decide +kernel) rfl⟩
theorem fl_X3_9 : XFl RX3 9 3 0 := ⟨RX3, TX3, 3, rfl, by decide, inX3, wa_t 163 (by decide +kernel) rfl⟩
theorem fl_X0_55 : XFl RX0 55 3 0 := ⟨RX3, TX3, 3, rfl, by decide, inX3, wa_t 164 (by decide +kernel) rfl⟩
theorem fl_X3_15 : XFl RX3 15 3 1 := ⟨RX3, TX3, 3, rfl, by decide, inX3, wa_t 165 (by decide +kernel) rfl⟩
theorem fl_X3_19 : XFl RX3 19 3 2 := ⟨RX3, TX3, 3, rfl, by decide, inX3, wa_t 166 (by decide +kernel) rfl⟩
theorem fp_X3_19 : XFp RX3 19 3 2 .boolean := ⟨RX3, TX3, 3, tyX3, rfl, by decide, inX3, wa_t 166 (by decide +kernel) rfl, okX3, nmX3, rfl, by decide +kernel⟩
theorem fl_X9_207 : XFl RX9 207 3 2 := ⟨RX3, TX3, 3, rfl, by decide, inX3, wa_t 167 (by decide +kernel) rfl⟩
theorem fp_X9_207 : XFp RX9 207 3 2 .boolean := ⟨RX3, TX3, 3, tyX3, rfl, by decide, inX3, wa_t 167 (by decide +kernel) rfl, okX3, nmX3, rfl, by decide +kernel⟩
theorem fl_X2_18 : XFl RX2 18 2 0 := ⟨RX2, TX2, 3, rfl, by decide, inX2, wa_t 181 (by decide +kernel) rfl⟩
theorem fp_X2_18 : XFp RX2 18 2 0 .int := ⟨RX2, TX2, 3, tyX2, rfl, by decide, inX2, wa_t 181 (by decide +kernel) rfl, okX2, nmX2, rfl, by decide +kernel⟩
theorem fl_X7_42 : XFl RX7 42 2 0 := ⟨RX2, TX2, 3, rfl, by decide, inX2, wa_t 182 (by decide +kernel) rfl⟩
theorem fp_X7_42 : XFp RX7 42 2 0 .int := ⟨RX2, TX2, 3, tyX2, rfl, by decide, inX2, wa_t 182 (by decide +kernel) rfl, okX2, nmX2, rfl, by decide +kernel⟩
theorem fl_X9_162 : XFl RX9 162 2 0 := ⟨RX2, TX2, 3, rfl, by decide, inX2, wa_t 183 (by decide +kernel) rfl⟩
theorem fp_X9_162 : XFp RX9 162 2 0 .int := ⟨RX2, TX2, 3, tyX2, rfl, by decide, inX2, wa_t 183 (by decide +kernel) rfl, okX2, nmX2, rfl, by decide +kernel⟩
theorem fl_X2_9 : XFl RX2 9 2 1 := ⟨RX2, TX2, 3, rfl, by decide, inX2, wa_t 184 (by decide +kernel) rfl⟩
theorem fl_X7_51 : XFl RX7 51 2 1 := ⟨RX2, TX2, 3, rfl, by decide, inX2, wa_t 185 (by decide +kernel) rfl⟩
theorem fl_X9_163 : XFl RX9 163 2 1 := ⟨RX2, TX2, 3, rfl, by decide, inX2, wa_t 186 (by decide +kernel) rfl⟩
theorem fl_X2_15 : XFl RX2 15 2 2 := ⟨RX2, TX2, 3, rfl, by decide, inX2, wa_t 187 (by decide +kernel) rfl⟩
theorem fl_X7_60 : XFl RX7 60 2 2 := ⟨RX2, TX2, 3, rfl, by decide, inX2, wa_t 188 (by decide +kernel) rfl⟩
theorem fl_X7_9 : XFl RX7 9 7 0 := ⟨RX7, TX7, 7, rfl, by decide, inX7, wa_t 202 (by decide +kernel) rfl⟩
theorem fl_X9_181 : XFl RX9 181 7 0 := ⟨RX7, TX7, 7, rfl, by decide, inX7, wa_t 203 (by decide +kernel) rfl⟩
theorem fl_X7_15 : XFl RX7 15 7 1 := ⟨RX7, TX7, 7, rfl, by decide, inX7, wa_t 204 (by decide +kernel) rfl⟩
theorem fp_X7_15 : XFp RX7 15 7 1 .int := ⟨RX7, TX7, 7, tyX7, rfl, by decide, inX7, wa_t 204 (by decide +kernel) rfl, okX7, nmX7, rfl, by decide +kernel⟩
theorem fl_X9_172 : XFl RX9 172 7 1 := ⟨RX7, TX7, 7, rfl, by decide, inX7, wa_t 205 (by decide +kernel) rfl⟩
theorem fp_X9_172 : XFp RX9 172 7 1 .int := ⟨RX7, TX7, 7, tyX7, rfl, by decide, inX7, wa_t 205 (by decide +kernel) rfl, okX7, nmX7, rfl, by decide +kernel⟩
theorem fl_X7_19 : XFl RX7 19 7 2 := ⟨RX7, TX7, 7, rfl, by decide, inX7, wa_t 206 (by decide +kernel) rfl⟩
theorem fp_X7_19 : XFp RX7 19 7 2 .int := ⟨RX7, TX7, 7, tyX7, rfl, by decide, inX7, wa_t 206 (by decide +kernel) rfl, okX7, nmX7, rfl, by decide +kernel⟩
theorem fl_X9_175 : XFl RX9 175 7 2 := ⟨RX7, TX7, 7, rfl, by decide, inX7, wa_t 207 (by decide +kernel) rfl⟩
theorem fp_X9_175 : XFp RX9 175 7 2 .int := ⟨RX7, TX7, 7, tyX7, rfl, by decide, inX7, wa_t 207 (by decide +kernel) rfl, okX7, nmX7, rfl, by decide +kernel⟩
theorem fl_X7_22 : XFl RX7 22 7 3 := ⟨RX7, TX7, 7, rfl, by decide, inX7, wa_t 208 (by decide +kernel) rfl⟩
theorem fp_X7_22 : XFp RX7 22 7 3 .int := ⟨RX7, TX7, 7, tyX7, rfl, by decide, inX7, wa_t 208 (by decide +kernel) rfl, okX7, nmX7, rfl, by decide +kernel⟩
theorem fl_X9_178 : XFl RX9 178 7 3 := ⟨RX7, TX7, 7, rfl, by decide, inX7, wa_t 209 (by decide +kernel) rfl⟩
theorem fp_X9_178 : XFp RX9 178 7 3 .int := ⟨RX7, TX7, 7, tyX7, rfl, by decide, inX7, wa_t 209 (by decide +kernel) rfl, okX7, nmX7, rfl, by decide +kernel⟩
theorem fl_X7_28 : XFl RX7 28 7 4 := ⟨RX7, TX7, 7, rfl, by decide, inX7, wa_t 210 (by decide +kernel) rfl⟩
theorem fp_X7_28 : XFp RX7 28 7 4 .int := ⟨RX7, TX7, 7, tyX7, rfl, by decide, inX7, wa_t 210 (by decide +kernel) rfl, okX7, nmX7, rfl, by decide +kernel⟩
theorem fl_X7_31 : XFl RX7 31 7 5 := ⟨RX7, TX7, 7, rfl, by decide, inX7, wa_t 211 (by decide +kernel) rfl⟩
theorem fp_X7_31 : XFp RX7 31 7 5 .boolean := ⟨RX7, TX7, 7, tyX7, rfl, by decide, inX7, wa_t 211 (by decide +kernel) rfl, okX7, nmX7, rfl, by decide +kernel⟩
theorem fl_X7_35 : XFl RX7 35 7 6 := ⟨RX7, TX7, 7, rfl, by decide, inX7, wa_t 212 (by decide +kernel) rfl⟩
theorem fp_X7_35 : XFp RX7 35 7 6 .int := ⟨RX7, TX7, 7, tyX7, rfl, by decide, inX7, wa_t 212 (by decide +kernel) rfl, okX7, nmX7, rfl, by decide +kernel⟩
theorem fl_X9_10 : XFl RX9 10 9 0 := ⟨RX9, TX9, 12, rfl, by decide, inX9, wa_t 228 (by decide +kernel) rfl⟩
theorem fl_X9_18 : XFl RX9 18 9 1 := ⟨RX9, TX9, 12, rfl, by decide, inX9, wa_t 229 (by decide +kernel) rfl⟩
theorem fl_X9_64 : XFl RX9 64 9 2 := ⟨RX9, TX9, 12, rfl, by decide, inX9, wa_t 230 (by decide +kernel) rfl⟩
theorem fp_X9_64 : XFp RX9 64 9 2 .int := ⟨RX9, TX9, 12, tyX9, rfl, by decide, inX9, wa_t 230 (by decide +kernel) rfl, okX9, nmX9, rfl, by decide +kernel⟩
theorem fl_X9_25 : XFl RX9 25 9 3 := ⟨RX9, TX9, 12, rfl, by decide, inX9, wa_t 231 (by decide +kernel) rfl⟩
theorem fl_X9_68 : XFl RX9 68 9 4 := ⟨RX9, TX9, 12, rfl, by decide, inX9, wa_t 232 (by decide +kernel) rfl⟩
theorem fp_X9_68 : XFp RX9 68 9 4 .int := ⟨RX9, TX9, 12, tyX9, rfl, by decide, inX9, wa_t 232 (by decide +kernel) rfl, okX9, nmX9, rfl, by decide +kernel⟩
theorem fl_X9_32 : XFl RX9 32 9 5 := ⟨RX9, TX9, 12, rfl, by decide, inX9, wa_t 233 (by decide +kernel) rfl⟩
theorem fl_X9_71 : XFl RX9 71 9 6 := ⟨RX9, TX9, 12, rfl, by decide, inX9, wa_t 234 (by decide +kernel) rfl⟩
theorem fp_X9_71 : XFp RX9 71 9 6 .int := ⟨RX9, TX9, 12, tyX9, rfl, by decide, inX9, wa_t 234 (by decide +kernel) rfl, okX9, nmX9, rfl, by decide +kernel⟩
theorem fl_X9_74 : XFl RX9 74 9 7 := ⟨RX9, TX9, 12, rfl, by decide, inX9, wa_t 235 (by decide +kernel) rfl⟩
theorem fp_X9_74 : XFp RX9 74 9 7 .boolean := ⟨RX9, TX9, 12, tyX9, rfl, by decide, inX9, wa_t 235 (by decide +kernel) rfl, okX9, nmX9, rfl, by decide +kernel⟩
theorem fl_X9_40 : XFl RX9 40 9 8 := ⟨RX9, TX9, 12, rfl, by decide, inX9, wa_t 236 (by decide +kernel) rfl⟩
theorem fl_X9_44 : XFl RX9 44 9 9 := ⟨RX9, TX9, 12, rfl, by decide, inX9, wa_t 237 (by decide +kernel) rfl⟩
theorem fl_X9_50 : XFl RX9 50 9 10 := ⟨RX9, TX9, 12, rfl, by decide, inX9, wa_t 238 (by decide +kernel) rfl⟩
theorem fl_X9_57 : XFl RX9 57 9 11 := ⟨RX9, TX9, 12, rfl, by decide, inX9, wa_t 239 (by decide +kernel) rfl⟩
theorem cw_L_13 : XCw RL 13 y_X9_clear c_X9_clear 1 none 0 := ⟨wa_t 265 (by decide +kernel) rfl, kc_X9_clear, ki_X9, ⟨by decide +kernel, by decide +kernel, by decide +kernel⟩, by decide⟩
theorem cw_X9_61 : XCw RX9 61 y_X0_forget c_X0_forget 1 none 0 := ⟨wa_t 269 (by decide +kernel) rfl, kc_X0_forget, ki_X0, ⟨by decide +kernel, by decide +kernel, by decide +kernel⟩, by decide⟩
theorem cw_X9_78 : XCw RX9 78 y_X7_forget c_X7_forget 1 none 0 := ⟨wa_t 273 (by decide +kernel) rfl, kc_X7_forget, ki_X7, ⟨by decide +kernel, by decide +kernel, by decide +kernel⟩, by decide⟩
theorem cw_L_17 : XCw RL 17 y_X9_binding c_X9_binding 2 (some .int) 1 := ⟨wa_t 277 (by decide +kernel) rfl, kc_X9_binding, ki_X9, ⟨by decide +kernel, by decide +kernel, by decide +kernel⟩, by decide⟩
theorem cw_X9_82 : XCw RX9 82 y_X0_declare c_X0_declare 2 (some .int) 1 := ⟨wa_t 281 (by decide +kernel) rfl, kc_X0_declare, ki_X0, ⟨by decide +kernel, by decide +kernel, by decide +kernel⟩, by decide⟩
theorem cw_L_22 : XCw RL 22 y_X9_carry c_X9_carry 4 (some .int) 3 := ⟨wa_t 285 (by decide +kernel) rfl, kc_X9_carry, ki_X9, ⟨by decide +kernel, by decide +kernel, by decide +kernel⟩, by decide⟩
theorem cw_X9_86 : XCw RX9 86 y_X0_has c_X0_has 2 (some .boolean) 1 := ⟨wa_t 289 (by decide +kernel) rfl, kc_X0_has, ki_X0, ⟨by decide +kernel, by decide +kernel, by decide +kernel⟩, by decide⟩
theorem cw_X9_94 : XCw RX9 94 y_X1_isFull c_X1_isFull 1 (some .boolean) 0 := ⟨wa_t 293 (by decide +kernel) rfl, kc_X1_isFull, ki_X1, ⟨by decide +kernel, by decide +kernel, by decide +kernel⟩, by decide⟩
theorem cw_X9_100 : XCw RX9 100 y_X0_addCarried c_X0_addCarried 4 none 3 := ⟨wa_t 297 (by decide +kernel) rfl, kc_X0_addCarried, ki_X0, ⟨by decide +kernel, by decide +kernel, by decide +kernel⟩, by decide⟩
theorem cw_X0_33 : XCw RX0 33 y_X0_valueThatMatters c_X0_valueThatMatters 3 (some .int) 2 := ⟨wa_t 301 (by decide +kernel) rfl, kc_X0_valueThatMatters, ki_X0, ⟨by decide +kernel, by decide +kernel, by decide +kernel⟩, by decide⟩
theorem cw_X0_37 : XCw RX0 37 y_X1_add c_X1_add 3 none 2 := ⟨wa_t 305 (by decide +kernel) rfl, kc_X1_add, ki_X1, ⟨by decide +kernel, by decide +kernel, by decide +kernel⟩, by decide⟩
theorem cw_X1_20 : XCw RX1 20 y_X1_isFull c_X1_isFull 1 (some .boolean) 0 := ⟨wa_t 309 (by decide +kernel) rfl, kc_X1_isFull, ki_X1, ⟨by decide +kernel, by decide +kernel, by decide +kernel⟩, by decide⟩
theorem cw_L_27 : XCw RL 27 y_X9_interceptor c_X9_interceptor 4 (some .int) 3 := ⟨wa_t 310 (by decide +kernel) rfl, kc_X9_interceptor, ki_X9, ⟨by decide +kernel, by decide +kernel, by decide +kernel⟩, by decide⟩
theorem cw_X9_104 : XCw RX9 104 y_X9_isWithin c_X9_isWithin 2 (some .boolean) 2 := ⟨wa_t 314 (by decide +kernel) rfl, kc_X9_isWithin, ki_X9, ⟨by decide +kernel, by decide +kernel, by decide +kernel⟩, by decide⟩
theorem cw_X9_108 : XCw RX9 108 y_X6_declare c_X6_declare 4 none 3 := ⟨wa_t 317 (by decide +kernel) rfl, kc_X6_declare, ki_X6, ⟨by decide +kernel, by decide +kernel, by decide +kernel⟩, by decide⟩
theorem cw_L_31 : XCw RL 31 y_X9_decorator c_X9_decorator 5 (some .int) 4 := ⟨wa_t 321 (by decide +kernel) rfl, kc_X9_decorator, ki_X9, ⟨by decide +kernel, by decide +kernel, by decide +kernel⟩, by decide⟩
theorem cw_X9_110 : XCw RX9 110 y_X5_declare c_X5_declare 5 none 4 := ⟨wa_t 325 (by decide +kernel) rfl, kc_X5_declare, ki_X5, ⟨by decide +kernel, by decide +kernel, by decide +kernel⟩, by decide⟩
theorem cw_L_36 : XCw RL 36 y_X9_component c_X9_component 2 (some .int) 1 := ⟨wa_t 329 (by decide +kernel) rfl, kc_X9_component, ki_X9, ⟨by decide +kernel, by decide +kernel, by decide +kernel⟩, by decide⟩
theorem cw_X9_113 : XCw RX9 113 y_X4_declare c_X4_declare 3 none 1 := ⟨wa_t 333 (by decide +kernel) rfl, kc_X4_declare, ki_X4, ⟨by decide +kernel, by decide +kernel, by decide +kernel⟩, by decide⟩
theorem cw_X4_26 : XCw RX4 26 y_X8_forget c_X8_forget 1 none 0 := ⟨wa_t 337 (by decide +kernel) rfl, kc_X8_forget, ki_X8, ⟨by decide +kernel, by decide +kernel, by decide +kernel⟩, by decide⟩
theorem cw_L_41 : XCw RL 41 y_X9_bindInterceptor c_X9_bindInterceptor 4 (some .int) 3 := ⟨wa_t 341 (by decide +kernel) rfl, kc_X9_bindInterceptor, ki_X9, ⟨by decide +kernel, by decide +kernel, by decide +kernel⟩, by decide⟩
theorem cw_X9_116 : XCw RX9 116 y_X9_isInterceptor c_X9_isInterceptor 2 (some .boolean) 1 := ⟨wa_t 345 (by decide +kernel) rfl, kc_X9_isInterceptor, ki_X9, ⟨by decide +kernel, by decide +kernel, by decide +kernel⟩, by decide⟩
theorem cw_X9_122 : XCw RX9 122 y_X9_addBinding c_X9_addBinding 4 (some .int) 3 := ⟨wa_t 349 (by decide +kernel) rfl, kc_X9_addBinding, ki_X9, ⟨by decide +kernel, by decide +kernel, by decide +kernel⟩, by decide⟩
theorem cw_X9_187 : XCw RX9 187 y_X0_valueThatMatters c_X0_valueThatMatters 3 (some .int) 2 := ⟨wa_t 353 (by decide +kernel) rfl, kc_X0_valueThatMatters, ki_X0, ⟨by decide +kernel, by decide +kernel, by decide +kernel⟩, by decide⟩
theorem cw_X9_191 : XCw RX9 191 y_X1_add c_X1_add 3 none 2 := ⟨wa_t 354 (by decide +kernel) rfl, kc_X1_add, ki_X1, ⟨by decide +kernel, by decide +kernel, by decide +kernel⟩, by decide⟩
theorem cw_L_45 : XCw RL 45 y_X9_bind c_X9_bind 5 (some .int) 4 := ⟨wa_t 355 (by decide +kernel) rfl, kc_X9_bind, ki_X9, ⟨by decide +kernel, by decide +kernel, by decide +kernel⟩, by decide⟩
theorem cw_X9_126 : XCw RX9 126 y_X9_isPlace c_X9_isPlace 3 (some .boolean) 2 := ⟨wa_t 359 (by decide +kernel) rfl, kc_X9_isPlace, ki_X9, ⟨by decide +kernel, by decide +kernel, by decide +kernel⟩, by decide⟩
theorem cw_X9_184 : XCw RX9 184 y_X9_isComponent c_X9_isComponent 2 (some .boolean) 1 := ⟨wa_t 363 (by decide +kernel) rfl, kc_X9_isComponent, ki_X9, ⟨by decide +kernel, by decide +kernel, by decide +kernel⟩, by decide⟩
theorem cw_X9_129 : XCw RX9 129 y_X4_place c_X4_place 2 (some (.object "BoundChains$Place")) 1 := ⟨wa_t 367 (by decide +kernel) rfl, kc_X4_place, ki_X4, ⟨by decide +kernel, by decide +kernel, by decide +kernel⟩, by decide⟩
theorem cw_L_49 : XCw RL 49 y_X9_list c_X9_list 5 (some .int) 3 := ⟨wa_t 371 (by decide +kernel) rfl, kc_X9_list, ki_X9, ⟨by decide +kernel, by decide +kernel, by decide +kernel⟩, by decide⟩
theorem cw_X9_139 : XCw RX9 139 y_X8_addListed c_X8_addListed 2 none 1 := ⟨wa_t 375 (by decide +kernel) rfl, kc_X8_addListed, ki_X8, ⟨by decide +kernel, by decide +kernel, by decide +kernel⟩, by decide⟩
theorem cw_L_53 : XCw RL 53 y_X9_flags c_X9_flags 4 (some .int) 3 := ⟨wa_t 379 (by decide +kernel) rfl, kc_X9_flags, ki_X9, ⟨by decide +kernel, by decide +kernel, by decide +kernel⟩, by decide⟩
theorem cw_L_57 : XCw RL 57 y_X9_deploy c_X9_deploy 2 (some .int) 0 := ⟨wa_t 383 (by decide +kernel) rfl, kc_X9_deploy, ki_X9, ⟨by decide +kernel, by decide +kernel, by decide +kernel⟩, by decide⟩
theorem cw_X9_145 : XCw RX9 145 y_X9_findConflictOfInterceptor c_X9_findConflictOfInterceptor 2 (some .int) 0 := ⟨wa_t 387 (by decide +kernel) rfl, kc_X9_findConflictOfInterceptor, ki_X9, ⟨by decide +kernel, by decide +kernel, by decide +kernel⟩, by decide⟩
theorem cw_X9_195 : XCw RX9 195 y_X9_hasConflict c_X9_hasConflict 2 (some .boolean) 1 := ⟨wa_t 391 (by decide +kernel) rfl, kc_X9_hasConflict, ki_X9, ⟨by decide +kernel, by decide +kernel, by decide +kernel⟩, by decide⟩
theorem cw_X9_203 : XCw RX9 203 y_X0_close c_X0_close 5 none 2 := ⟨wa_t 395 (by decide +kernel) rfl, kc_X0_close, ki_X0, ⟨by decide +kernel, by decide +kernel, by decide +kernel⟩, by decide⟩
theorem cw_X0_41 : XCw RX0 41 y_X3_forget c_X3_forget 2 none 0 := ⟨wa_t 399 (by decide +kernel) rfl, kc_X3_forget, ki_X3, ⟨by decide +kernel, by decide +kernel, by decide +kernel⟩, by decide⟩
theorem cw_X0_52 : XCw RX0 52 y_X3_put c_X3_put 3 none 2 := ⟨wa_t 403 (by decide +kernel) rfl, kc_X3_put, ki_X3, ⟨by decide +kernel, by decide +kernel, by decide +kernel⟩, by decide⟩
theorem cw_X9_149 : XCw RX9 149 y_X9_findConflictOfComponent c_X9_findConflictOfComponent 3 (some .int) 0 := ⟨wa_t 407 (by decide +kernel) rfl, kc_X9_findConflictOfComponent, ki_X9, ⟨by decide +kernel, by decide +kernel, by decide +kernel⟩, by decide⟩
theorem cw_X9_152 : XCw RX9 152 y_X9_findFinalWithChain c_X9_findFinalWithChain 3 (some .int) 0 := ⟨wa_t 411 (by decide +kernel) rfl, kc_X9_findFinalWithChain, ki_X9, ⟨by decide +kernel, by decide +kernel, by decide +kernel⟩, by decide⟩
theorem cw_X9_171 : XCw RX9 171 y_X8_has c_X8_has 2 (some .boolean) 1 := ⟨wa_t 415 (by decide +kernel) rfl, kc_X8_has, ki_X8, ⟨by decide +kernel, by decide +kernel, by decide +kernel⟩, by decide⟩
theorem cw_X9_158 : XCw RX9 158 y_X9_buildChain c_X9_buildChain 4 none 2 := ⟨wa_t 419 (by decide +kernel) rfl, kc_X9_buildChain, ki_X9, ⟨by decide +kernel, by decide +kernel, by decide +kernel⟩, by decide⟩
theorem cw_X9_210 : XCw RX9 210 y_X9_appendListed c_X9_appendListed 5 none 2 := ⟨wa_t 423 (by decide +kernel) rfl, kc_X9_appendListed, ki_X9, ⟨by decide +kernel, by decide +kernel, by decide +kernel⟩, by decide⟩
theorem cw_X9_234 : XCw RX9 234 y_X6_takesPartIn c_X6_takesPartIn 2 (some .boolean) 1 := ⟨wa_t 427 (by decide +kernel) rfl, kc_X6_takesPartIn, ki_X6, ⟨by decide +kernel, by decide +kernel, by decide +kernel⟩, by decide⟩
theorem cw_X9_226 : XCw RX9 226 y_X2_add c_X2_add 3 none 2 := ⟨wa_t 431 (by decide +kernel) rfl, kc_X2_add, ki_X2, ⟨by decide +kernel, by decide +kernel, by decide +kernel⟩, by decide⟩
theorem cw_X9_214 : XCw RX9 214 y_X9_appendBound c_X9_appendBound 5 none 1 := ⟨wa_t 435 (by decide +kernel) rfl, kc_X9_appendBound, ki_X9, ⟨by decide +kernel, by decide +kernel, by decide +kernel⟩, by decide⟩
theorem cw_X9_243 : XCw RX9 243 y_X9_isInForce c_X9_isInForce 2 (some .boolean) 1 := ⟨wa_t 439 (by decide +kernel) rfl, kc_X9_isInForce, ki_X9, ⟨by decide +kernel, by decide +kernel, by decide +kernel⟩, by decide⟩
theorem cw_X9_247 : XCw RX9 247 y_X3_isAmong c_X3_isAmong 3 (some .boolean) 1 := ⟨wa_t 443 (by decide +kernel) rfl, kc_X3_isAmong, ki_X3, ⟨by decide +kernel, by decide +kernel, by decide +kernel⟩, by decide⟩
theorem cw_X9_217 : XCw RX9 217 y_X9_findInForceForMethod c_X9_findInForceForMethod 3 none 2 := ⟨wa_t 447 (by decide +kernel) rfl, kc_X9_findInForceForMethod, ki_X9, ⟨by decide +kernel, by decide +kernel, by decide +kernel⟩, by decide⟩
theorem cw_X9_227 : XCw RX9 227 y_X3_addMissingTypes c_X3_addMissingTypes 3 none 1 := ⟨wa_t 451 (by decide +kernel) rfl, kc_X3_addMissingTypes, ki_X3, ⟨by decide +kernel, by decide +kernel, by decide +kernel⟩, by decide⟩
theorem cw_X3_23 : XCw RX3 23 y_X3_put c_X3_put 3 none 2 := ⟨wa_t 455 (by decide +kernel) rfl, kc_X3_put, ki_X3, ⟨by decide +kernel, by decide +kernel, by decide +kernel⟩, by decide⟩
theorem cw_X9_223 : XCw RX9 223 y_X9_appendDecorators c_X9_appendDecorators 5 none 2 := ⟨wa_t 456 (by decide +kernel) rfl, kc_X9_appendDecorators, ki_X9, ⟨by decide +kernel, by decide +kernel, by decide +kernel⟩, by decide⟩
theorem cw_X9_252 : XCw RX9 252 y_X5_decorates c_X5_decorates 3 (some .boolean) 2 := ⟨wa_t 460 (by decide +kernel) rfl, kc_X5_decorates, ki_X5, ⟨by decide +kernel, by decide +kernel, by decide +kernel⟩, by decide⟩
theorem cw_L_62 : XCw RL 62 y_X9_length c_X9_length 3 (some .int) 2 := ⟨wa_t 464 (by decide +kernel) rfl, kc_X9_length, ki_X9, ⟨by decide +kernel, by decide +kernel, by decide +kernel⟩, by decide⟩
theorem cw_X9_155 : XCw RX9 155 y_X9_hasChain c_X9_hasChain 3 (some .boolean) 2 := ⟨wa_t 468 (by decide +kernel) rfl, kc_X9_hasChain, ki_X9, ⟨by decide +kernel, by decide +kernel, by decide +kernel⟩, by decide⟩
theorem cw_L_67 : XCw RL 67 y_X9_element c_X9_element 4 (some .int) 3 := ⟨wa_t 472 (by decide +kernel) rfl, kc_X9_element, ki_X9, ⟨by decide +kernel, by decide +kernel, by decide +kernel⟩, by decide⟩
theorem cw_L_71 : XCw RL 71 y_X9_invoke c_X9_invoke 4 (some .int) 3 := ⟨wa_t 476 (by decide +kernel) rfl, kc_X9_invoke, ki_X9, ⟨by decide +kernel, by decide +kernel, by decide +kernel⟩, by decide⟩
theorem cw_X9_167 : XCw RX9 167 y_X7_run c_X7_run 6 none 4 := ⟨wa_t 480 (by decide +kernel) rfl, kc_X7_run, ki_X7, ⟨by decide +kernel, by decide +kernel, by decide +kernel⟩, by decide⟩
theorem cw_X7_25 : XCw RX7 25 y_X7_forget c_X7_forget 1 none 0 := ⟨wa_t 484 (by decide +kernel) rfl, kc_X7_forget, ki_X7, ⟨by decide +kernel, by decide +kernel, by decide +kernel⟩, by decide⟩
theorem cw_X7_38 : XCw RX7 38 y_X7_enter c_X7_enter 5 (some .int) 3 := ⟨wa_t 485 (by decide +kernel) rfl, kc_X7_enter, ki_X7, ⟨by decide +kernel, by decide +kernel, by decide +kernel⟩, by decide⟩
theorem cw_X7_47 : XCw RX7 47 y_X7_fail c_X7_fail 2 (some .int) 1 := ⟨wa_t 489 (by decide +kernel) rfl, kc_X7_fail, ki_X7, ⟨by decide +kernel, by decide +kernel, by decide +kernel⟩, by decide⟩
theorem cw_X7_54 : XCw RX7 54 y_X7_reachTarget c_X7_reachTarget 2 (some .int) 1 := ⟨wa_t 493 (by decide +kernel) rfl, kc_X7_reachTarget, ki_X7, ⟨by decide +kernel, by decide +kernel, by decide +kernel⟩, by decide⟩
theorem cw_X7_57 : XCw RX7 57 y_X7_behave c_X7_behave 6 (some .int) 3 := ⟨wa_t 497 (by decide +kernel) rfl, kc_X7_behave, ki_X7, ⟨by decide +kernel, by decide +kernel, by decide +kernel⟩, by decide⟩
theorem cw_X7_63 : XCw RX7 63 y_X7_proceedTwice c_X7_proceedTwice 5 (some .int) 3 := ⟨wa_t 501 (by decide +kernel) rfl, kc_X7_proceedTwice, ki_X7, ⟨by decide +kernel, by decide +kernel, by decide +kernel⟩, by decide⟩
theorem cw_X7_70 : XCw RX7 70 y_X7_proceed c_X7_proceed 5 (some .int) 3 := ⟨wa_t 505 (by decide +kernel) rfl, kc_X7_proceed, ki_X7, ⟨by decide +kernel, by decide +kernel, by decide +kernel⟩, by decide⟩
theorem cw_X7_66 : XCw RX7 66 y_X7_growShared c_X7_growShared 3 (some .int) 2 := ⟨wa_t 509 (by decide +kernel) rfl, kc_X7_growShared, ki_X7, ⟨by decide +kernel, by decide +kernel, by decide +kernel⟩, by decide⟩
theorem cw_X7_73 : XCw RX7 73 y_X7_proceedAndCatch c_X7_proceedAndCatch 6 (some .int) 3 := ⟨wa_t 513 (by decide +kernel) rfl, kc_X7_proceedAndCatch, ki_X7, ⟨by decide +kernel, by decide +kernel, by decide +kernel⟩, by decide⟩
theorem cw_L_75 : XCw RL 75 y_X9_result c_X9_result 1 (some .int) 0 := ⟨wa_t 517 (by decide +kernel) rfl, kc_X9_result, ki_X9, ⟨by decide +kernel, by decide +kernel, by decide +kernel⟩, by decide⟩
theorem cw_L_79 : XCw RL 79 y_X9_error c_X9_error 1 (some .int) 0 := ⟨wa_t 521 (by decide +kernel) rfl, kc_X9_error, ki_X9, ⟨by decide +kernel, by decide +kernel, by decide +kernel⟩, by decide⟩
theorem cw_L_83 : XCw RL 83 y_X9_log c_X9_log 2 (some .int) 1 := ⟨wa_t 525 (by decide +kernel) rfl, kc_X9_log, ki_X9, ⟨by decide +kernel, by decide +kernel, by decide +kernel⟩, by decide⟩
theorem fl_X10_92 : XFl RX10 92 10 0 := ⟨RX10, TX10, 42, rfl, by decide, inX10, wa_t 535 (by decide +kernel) rfl⟩
theorem fp_X10_92 : XFp RX10 92 10 0 .boolean := ⟨RX10, TX10, 42, tyX10, rfl, by decide, inX10, wa_t 535 (by decide +kernel) rfl, okX10, nmX10, rfl, by decide +kernel⟩
theorem fl_X10_96 : XFl RX10 96 10 1 := ⟨RX10, TX10, 42, rfl, by decide, inX10, wa_t 536 (by decide +kernel) rfl⟩
theorem fp_X10_96 : XFp RX10 96 10 1 .int := ⟨RX10, TX10, 42, tyX10, rfl, by decide, inX10, wa_t 536 (by decide +kernel) rfl, okX10, nmX10, rfl, by decide +kernel⟩
theorem fl_X10_7 : XFl RX10 7 10 2 := ⟨RX10, TX10, 42, rfl, by decide, inX10, wa_t 537 (by decide +kernel) rfl⟩
theorem fl_X10_100 : XFl RX10 100 10 3 := ⟨RX10, TX10, 42, rfl, by decide, inX10, wa_t 538 (by decide +kernel) rfl⟩
theorem fp_X10_100 : XFp RX10 100 10 3 .int := ⟨RX10, TX10, 42, tyX10, rfl, by decide, inX10, wa_t 538 (by decide +kernel) rfl, okX10, nmX10, rfl, by decide +kernel⟩
theorem fl_X10_13 : XFl RX10 13 10 4 := ⟨RX10, TX10, 42, rfl, by decide, inX10, wa_t 539 (by decide +kernel) rfl⟩
theorem fl_X10_17 : XFl RX10 17 10 5 := ⟨RX10, TX10, 42, rfl, by decide, inX10, wa_t 540 (by decide +kernel) rfl⟩
theorem fl_X10_20 : XFl RX10 20 10 6 := ⟨RX10, TX10, 42, rfl, by decide, inX10, wa_t 541 (by decide +kernel) rfl⟩
theorem fl_X10_103 : XFl RX10 103 10 7 := ⟨RX10, TX10, 42, rfl, by decide, inX10, wa_t 542 (by decide +kernel) rfl⟩
theorem fp_X10_103 : XFp RX10 103 10 7 .int := ⟨RX10, TX10, 42, tyX10, rfl, by decide, inX10, wa_t 542 (by decide +kernel) rfl, okX10, nmX10, rfl, by decide +kernel⟩
theorem fl_X10_23 : XFl RX10 23 10 8 := ⟨RX10, TX10, 42, rfl, by decide, inX10, wa_t 543 (by decide +kernel) rfl⟩
theorem fl_X10_26 : XFl RX10 26 10 9 := ⟨RX10, TX10, 42, rfl, by decide, inX10, wa_t 544 (by decide +kernel) rfl⟩
theorem fl_X10_29 : XFl RX10 29 10 10 := ⟨RX10, TX10, 42, rfl, by decide, inX10, wa_t 545 (by decide +kernel) rfl⟩
theorem fl_X10_106 : XFl RX10 106 10 11 := ⟨RX10, TX10, 42, rfl, by decide, inX10, wa_t 546 (by decide +kernel) rfl⟩
theorem fp_X10_106 : XFp RX10 106 10 11 .int := ⟨RX10, TX10, 42, tyX10, rfl, by decide, inX10, wa_t 546 (by decide +kernel) rfl, okX10, nmX10, rfl, by decide +kernel⟩
theorem fl_X10_32 : XFl RX10 32 10 12 := ⟨RX10, TX10, 42, rfl, by decide, inX10, wa_t 547 (by decide +kernel) rfl⟩
theorem fl_X10_35 : XFl RX10 35 10 13 := ⟨RX10, TX10, 42, rfl, by decide, inX10, wa_t 548 (by decide +kernel) rfl⟩
theorem fl_X10_38 : XFl RX10 38 10 14 := ⟨RX10, TX10, 42, rfl, by decide, inX10, wa_t 549 (by decide +kernel) rfl⟩
theorem fl_X10_41 : XFl RX10 41 10 15 := ⟨RX10, TX10, 42, rfl, by decide, inX10, wa_t 550 (by decide +kernel) rfl⟩
theorem fl_X10_109 : XFl RX10 109 10 16 := ⟨RX10, TX10, 42, rfl, by decide, inX10, wa_t 551 (by decide +kernel) rfl⟩
theorem fp_X10_109 : XFp RX10 109 10 16 .int := ⟨RX10, TX10, 42, tyX10, rfl, by decide, inX10, wa_t 551 (by decide +kernel) rfl, okX10, nmX10, rfl, by decide +kernel⟩
theorem fl_X10_44 : XFl RX10 44 10 17 := ⟨RX10, TX10, 42, rfl, by decide, inX10, wa_t 552 (by decide +kernel) rfl⟩
theorem fl_X10_47 : XFl RX10 47 10 18 := ⟨RX10, TX10, 42, rfl, by decide, inX10, wa_t 553 (by decide +kernel) rfl⟩
theorem fl_X10_50 : XFl RX10 50 10 19 := ⟨RX10, TX10, 42, rfl, by decide, inX10, wa_t 554 (by decide +kernel) rfl⟩
theorem fl_X10_53 : XFl RX10 53 10 20 := ⟨RX10, TX10, 42, rfl, by decide, inX10, wa_t 555 (by decide +kernel) rfl⟩
theorem fl_X10_56 : XFl RX10 56 10 21 := ⟨RX10, TX10, 42, rfl, by decide, inX10, wa_t 556 (by decide +kernel) rfl⟩
theorem fl_X10_59 : XFl RX10 59 10 22 := ⟨RX10, TX10, 42, rfl, by decide, inX10, wa_t 557 (by decide +kernel) rfl⟩
theorem fl_X10_62 : XFl RX10 62 10 23 := ⟨RX10, TX10, 42, rfl, by decide, inX10, wa_t 558 (by decide +kernel) rfl⟩
theorem fl_X10_133 : XFl RX10 133 10 24 := ⟨RX10, TX10, 42, rfl, by decide, inX10, wa_t 559 (by decide +kernel) rfl⟩
theorem fp_X10_133 : XFp RX10 133 10 24 .int := ⟨RX10, TX10, 42, tyX10, rfl, by decide, inX10, wa_t 559 (by decide +kernel) rfl, okX10, nmX10, rfl, by decide +kernel⟩
theorem fl_X10_65 : XFl RX10 65 10 25 := ⟨RX10, TX10, 42, rfl, by decide, inX10, wa_t 560 (by decide +kernel) rfl⟩
theorem fl_X10_68 : XFl RX10 68 10 26 := ⟨RX10, TX10, 42, rfl, by decide, inX10, wa_t 561 (by decide +kernel) rfl⟩
theorem fl_X10_144 : XFl RX10 144 10 27 := ⟨RX10, TX10, 42, rfl, by decide, inX10, wa_t 562 (by decide +kernel) rfl⟩
theorem fp_X10_144 : XFp RX10 144 10 27 .int := ⟨RX10, TX10, 42, tyX10, rfl, by decide, inX10, wa_t 562 (by decide +kernel) rfl, okX10, nmX10, rfl, by decide +kernel⟩
theorem fl_X10_71 : XFl RX10 71 10 28 := ⟨RX10, TX10, 42, rfl, by decide, inX10, wa_t 563 (by decide +kernel) rfl⟩
theorem fl_X10_74 : XFl RX10 74 10 29 := ⟨RX10, TX10, 42, rfl, by decide, inX10, wa_t 564 (by decide +kernel) rfl⟩
theorem fl_X10_150 : XFl RX10 150 10 30 := ⟨RX10, TX10, 42, rfl, by decide, inX10, wa_t 565 (by decide +kernel) rfl⟩
theorem fp_X10_150 : XFp RX10 150 10 30 .int := ⟨RX10, TX10, 42, tyX10, rfl, by decide, inX10, wa_t 565 (by decide +kernel) rfl, okX10, nmX10, rfl, by decide +kernel⟩
theorem fl_X10_77 : XFl RX10 77 10 31 := ⟨RX10, TX10, 42, rfl, by decide, inX10, wa_t 566 (by decide +kernel) rfl⟩
theorem fl_X10_80 : XFl RX10 80 10 32 := ⟨RX10, TX10, 42, rfl, by decide, inX10, wa_t 567 (by decide +kernel) rfl⟩
theorem fl_X10_83 : XFl RX10 83 10 33 := ⟨RX10, TX10, 42, rfl, by decide, inX10, wa_t 568 (by decide +kernel) rfl⟩
theorem fl_X10_86 : XFl RX10 86 10 34 := ⟨RX10, TX10, 42, rfl, by decide, inX10, wa_t 569 (by decide +kernel) rfl⟩
theorem fl_X10_112 : XFl RX10 112 10 35 := ⟨RX10, TX10, 42, rfl, by decide, inX10, wa_t 570 (by decide +kernel) rfl⟩
theorem fp_X10_112 : XFp RX10 112 10 35 .int := ⟨RX10, TX10, 42, tyX10, rfl, by decide, inX10, wa_t 570 (by decide +kernel) rfl, okX10, nmX10, rfl, by decide +kernel⟩
theorem fl_X10_89 : XFl RX10 89 10 36 := ⟨RX10, TX10, 42, rfl, by decide, inX10, wa_t 571 (by decide +kernel) rfl⟩
theorem fl_X10_115 : XFl RX10 115 10 37 := ⟨RX10, TX10, 42, rfl, by decide, inX10, wa_t 572 (by decide +kernel) rfl⟩
theorem fp_X10_115 : XFp RX10 115 10 37 .int := ⟨RX10, TX10, 42, tyX10, rfl, by decide, inX10, wa_t 572 (by decide +kernel) rfl, okX10, nmX10, rfl, by decide +kernel⟩
theorem fl_X10_118 : XFl RX10 118 10 38 := ⟨RX10, TX10, 42, rfl, by decide, inX10, wa_t 573 (by decide +kernel) rfl⟩
theorem fp_X10_118 : XFp RX10 118 10 38 .int := ⟨RX10, TX10, 42, tyX10, rfl, by decide, inX10, wa_t 573 (by decide +kernel) rfl, okX10, nmX10, rfl, by decide +kernel⟩
theorem fl_X10_181 : XFl RX10 181 10 39 := ⟨RX10, TX10, 42, rfl, by decide, inX10, wa_t 574 (by decide +kernel) rfl⟩
theorem fp_X10_181 : XFp RX10 181 10 39 .int := ⟨RX10, TX10, 42, tyX10, rfl, by decide, inX10, wa_t 574 (by decide +kernel) rfl, okX10, nmX10, rfl, by decide +kernel⟩
theorem fl_X10_175 : XFl RX10 175 10 40 := ⟨RX10, TX10, 42, rfl, by decide, inX10, wa_t 575 (by decide +kernel) rfl⟩
theorem fp_X10_175 : XFp RX10 175 10 40 .boolean := ⟨RX10, TX10, 42, tyX10, rfl, by decide, inX10, wa_t 575 (by decide +kernel) rfl, okX10, nmX10, rfl, by decide +kernel⟩
theorem fl_X10_178 : XFl RX10 178 10 41 := ⟨RX10, TX10, 42, rfl, by decide, inX10, wa_t 576 (by decide +kernel) rfl⟩
theorem fp_X10_178 : XFp RX10 178 10 41 .int := ⟨RX10, TX10, 42, tyX10, rfl, by decide, inX10, wa_t 576 (by decide +kernel) rfl, okX10, nmX10, rfl, by decide +kernel⟩
theorem cw_L_16 : XCw RL 16 y_X10_clear c_X10_clear 2 none 0 := ⟨wa_t 662 (by decide +kernel) rfl, kc_X10_clear, ki_X10, ⟨by decide +kernel, by decide +kernel, by decide +kernel⟩, by decide⟩
theorem cw_L_21 : XCw RL 21 y_X10_binding c_X10_binding 2 (some .int) 1 := ⟨wa_t 666 (by decide +kernel) rfl, kc_X10_binding, ki_X10, ⟨by decide +kernel, by decide +kernel, by decide +kernel⟩, by decide⟩
theorem cw_L_26 : XCw RL 26 y_X10_carry c_X10_carry 4 (some .int) 3 := ⟨wa_t 670 (by decide +kernel) rfl, kc_X10_carry, ki_X10, ⟨by decide +kernel, by decide +kernel, by decide +kernel⟩, by decide⟩
theorem cw_X10_121 : XCw RX10 121 y_X10_within c_X10_within 2 (some .boolean) 2 := ⟨wa_t 674 (by decide +kernel) rfl, kc_X10_within, ki_X10, ⟨by decide +kernel, by decide +kernel, by decide +kernel⟩, by decide⟩
theorem cw_L_30 : XCw RL 30 y_X10_interceptor c_X10_interceptor 4 (some .int) 3 := ⟨wa_t 677 (by decide +kernel) rfl, kc_X10_interceptor, ki_X10, ⟨by decide +kernel, by decide +kernel, by decide +kernel⟩, by decide⟩
theorem cw_L_35 : XCw RL 35 y_X10_decorator c_X10_decorator 5 (some .int) 4 := ⟨wa_t 681 (by decide +kernel) rfl, kc_X10_decorator, ki_X10, ⟨by decide +kernel, by decide +kernel, by decide +kernel⟩, by decide⟩
theorem cw_L_40 : XCw RL 40 y_X10_component c_X10_component 2 (some .int) 1 := ⟨wa_t 685 (by decide +kernel) rfl, kc_X10_component, ki_X10, ⟨by decide +kernel, by decide +kernel, by decide +kernel⟩, by decide⟩
theorem cw_L_44 : XCw RL 44 y_X10_bindInterceptor c_X10_bindInterceptor 4 (some .int) 3 := ⟨wa_t 689 (by decide +kernel) rfl, kc_X10_bindInterceptor, ki_X10, ⟨by decide +kernel, by decide +kernel, by decide +kernel⟩, by decide⟩
theorem cw_X10_125 : XCw RX10 125 y_X10_bindRow c_X10_bindRow 4 (some .int) 3 := ⟨wa_t 693 (by decide +kernel) rfl, kc_X10_bindRow, ki_X10, ⟨by decide +kernel, by decide +kernel, by decide +kernel⟩, by decide⟩
theorem cw_L_48 : XCw RL 48 y_X10_bind c_X10_bind 6 (some .int) 4 := ⟨wa_t 697 (by decide +kernel) rfl, kc_X10_bind, ki_X10, ⟨by decide +kernel, by decide +kernel, by decide +kernel⟩, by decide⟩
theorem cw_X10_129 : XCw RX10 129 y_X10_rowOf c_X10_rowOf 2 (some .int) 2 := ⟨wa_t 701 (by decide +kernel) rfl, kc_X10_rowOf, ki_X10, ⟨by decide +kernel, by decide +kernel, by decide +kernel⟩, by decide⟩
theorem cw_L_52 : XCw RL 52 y_X10_list c_X10_list 5 (some .int) 3 := ⟨wa_t 704 (by decide +kernel) rfl, kc_X10_list, ki_X10, ⟨by decide +kernel, by decide +kernel, by decide +kernel⟩, by decide⟩
theorem cw_L_56 : XCw RL 56 y_X10_flags c_X10_flags 4 (some .int) 3 := ⟨wa_t 708 (by decide +kernel) rfl, kc_X10_flags, ki_X10, ⟨by decide +kernel, by decide +kernel, by decide +kernel⟩, by decide⟩
theorem cw_L_61 : XCw RL 61 y_X10_deploy c_X10_deploy 3 (some .int) 0 := ⟨wa_t 712 (by decide +kernel) rfl, kc_X10_deploy, ki_X10, ⟨by decide +kernel, by decide +kernel, by decide +kernel⟩, by decide⟩
theorem cw_X10_166 : XCw RX10 166 y_X10_conflict c_X10_conflict 5 (some .boolean) 1 := ⟨wa_t 716 (by decide +kernel) rfl, kc_X10_conflict, ki_X10, ⟨by decide +kernel, by decide +kernel, by decide +kernel⟩, by decide⟩
theorem cw_X10_140 : XCw RX10 140 y_X10_close c_X10_close 4 none 1 := ⟨wa_t 720 (by decide +kernel) rfl, kc_X10_close, ki_X10, ⟨by decide +kernel, by decide +kernel, by decide +kernel⟩, by decide⟩
theorem cw_X10_136 : XCw RX10 136 y_X10_add c_X10_add 4 none 2 := ⟨wa_t 724 (by decide +kernel) rfl, kc_X10_add, ki_X10, ⟨by decide +kernel, by decide +kernel, by decide +kernel⟩, by decide⟩
theorem cw_X10_169 : XCw RX10 169 y_X10_build c_X10_build 6 none 2 := ⟨wa_t 728 (by decide +kernel) rfl, kc_X10_build, ki_X10, ⟨by decide +kernel, by decide +kernel, by decide +kernel⟩, by decide⟩
theorem cw_X10_156 : XCw RX10 156 y_X10_linkList c_X10_linkList 4 none 2 := ⟨wa_t 732 (by decide +kernel) rfl, kc_X10_linkList, ki_X10, ⟨by decide +kernel, by decide +kernel, by decide +kernel⟩, by decide⟩
theorem cw_X10_153 : XCw RX10 153 y_X10_link c_X10_link 3 none 2 := ⟨wa_t 736 (by decide +kernel) rfl, kc_X10_link, ki_X10, ⟨by decide +kernel, by decide +kernel, by decide +kernel⟩, by decide⟩
theorem cw_X10_159 : XCw RX10 159 y_X10_force c_X10_force 3 none 2 := ⟨wa_t 740 (by decide +kernel) rfl, kc_X10_force, ki_X10, ⟨by decide +kernel, by decide +kernel, by decide +kernel⟩, by decide⟩
theorem cw_X10_147 : XCw RX10 147 y_X10_takeOver c_X10_takeOver 5 none 1 := ⟨wa_t 744 (by decide +kernel) rfl, kc_X10_takeOver, ki_X10, ⟨by decide +kernel, by decide +kernel, by decide +kernel⟩, by decide⟩
theorem cw_X10_162 : XCw RX10 162 y_X10_isBound c_X10_isBound 5 (some .boolean) 1 := ⟨wa_t 748 (by decide +kernel) rfl, kc_X10_isBound, ki_X10, ⟨by decide +kernel, by decide +kernel, by decide +kernel⟩, by decide⟩
theorem cw_L_66 : XCw RL 66 y_X10_length c_X10_length 4 (some .int) 2 := ⟨wa_t 752 (by decide +kernel) rfl, kc_X10_length, ki_X10, ⟨by decide +kernel, by decide +kernel, by decide +kernel⟩, by decide⟩
theorem cw_X10_172 : XCw RX10 172 y_X10_check c_X10_check 3 (some .int) 2 := ⟨wa_t 756 (by decide +kernel) rfl, kc_X10_check, ki_X10, ⟨by decide +kernel, by decide +kernel, by decide +kernel⟩, by decide⟩
theorem cw_L_70 : XCw RL 70 y_X10_element c_X10_element 5 (some .int) 3 := ⟨wa_t 760 (by decide +kernel) rfl, kc_X10_element, ki_X10, ⟨by decide +kernel, by decide +kernel, by decide +kernel⟩, by decide⟩
theorem cw_L_74 : XCw RL 74 y_X10_invoke c_X10_invoke 7 (some .int) 3 := ⟨wa_t 764 (by decide +kernel) rfl, kc_X10_invoke, ki_X10, ⟨by decide +kernel, by decide +kernel, by decide +kernel⟩, by decide⟩
theorem cw_X10_184 : XCw RX10 184 y_X10_answer c_X10_answer 3 none 2 := ⟨wa_t 768 (by decide +kernel) rfl, kc_X10_answer, ki_X10, ⟨by decide +kernel, by decide +kernel, by decide +kernel⟩, by decide⟩
theorem cw_X10_192 : XCw RX10 192 y_X10_enter c_X10_enter 6 (some .boolean) 3 := ⟨wa_t 772 (by decide +kernel) rfl, kc_X10_enter, ki_X10, ⟨by decide +kernel, by decide +kernel, by decide +kernel⟩, by decide⟩
theorem cw_X10_188 : XCw RX10 188 y_X10_behaviourOf c_X10_behaviourOf 2 (some .int) 1 := ⟨wa_t 776 (by decide +kernel) rfl, kc_X10_behaviourOf, ki_X10, ⟨by decide +kernel, by decide +kernel, by decide +kernel⟩, by decide⟩
theorem cw_X10_196 : XCw RX10 196 y_X10_resume c_X10_resume 3 (some .boolean) 1 := ⟨wa_t 780 (by decide +kernel) rfl, kc_X10_resume, ki_X10, ⟨by decide +kernel, by decide +kernel, by decide +kernel⟩, by decide⟩
theorem cw_L_78 : XCw RL 78 y_X10_result c_X10_result 1 (some .int) 0 := ⟨wa_t 784 (by decide +kernel) rfl, kc_X10_result, ki_X10, ⟨by decide +kernel, by decide +kernel, by decide +kernel⟩, by decide⟩
theorem cw_L_82 : XCw RL 82 y_X10_error c_X10_error 1 (some .int) 0 := ⟨wa_t 788 (by decide +kernel) rfl, kc_X10_error, ki_X10, ⟨by decide +kernel, by decide +kernel, by decide +kernel⟩, by decide⟩
theorem cw_L_86 : XCw RL 86 y_X10_log c_X10_log 2 (some .int) 1 := ⟨wa_t 792 (by decide +kernel) rfl, kc_X10_log, ki_X10, ⟨by decide +kernel, by decide +kernel, by decide +kernel⟩, by decide⟩
end
section
theorem d_X0_init_0 : decode c_X0_init 0 = .ok (.aload_n 0, 1) := by decide +kernel
theorem d_X0_init_1 : decode c_X0_init 1 = .ok (.invokespecial 3, 3) := by decide +kernel
theorem d_X0_init_4 : decode c_X0_init 4 = .ok (.aload_n 0, 1) := by decide +kernel
theorem d_X0_init_5 : decode c_X0_init 5 = .ok (.bipush 8, 2) := by decide +kernel
theorem d_X0_init_7 : decode c_X0_init 7 = .ok (.newarray .boolean, 2) := by decide +kernel
theorem d_X0_init_9 : decode c_X0_init 9 = .ok (.putfield 9, 3) := by decide +kernel
theorem d_X0_init_12 : decode c_X0_init 12 = .ok (.aload_n 0, 1) := by decide +kernel
theorem d_X0_init_13 : decode c_X0_init 13 = .ok (.bipush 16, 2) := by decide +kernel
theorem d_X0_init_15 : decode c_X0_init 15 = .ok (.newarray .int, 2) := by decide +kernel
theorem d_X0_init_17 : decode c_X0_init 17 = .ok (.putfield 15, 3) := by decide +kernel
theorem d_X0_init_20 : decode c_X0_init 20 = .ok (.aload_n 0, 1) := by decide +kernel
theorem d_X0_init_21 : decode c_X0_init 21 = .ok (.new 19, 3) := by decide +kernel
theorem d_X0_init_24 : decode c_X0_init 24 = .ok (.dup, 1) := by decide +kernel
theorem d_X0_init_25 : decode c_X0_init 25 = .ok (.bipush 16, 2) := by decide +kernel
theorem d_X0_init_27 : decode c_X0_init 27 = .ok (.invokespecial 21, 3) := by decide +kernel
theorem d_X0_init_30 : decode c_X0_init 30 = .ok (.putfield 24, 3) := by decide +kernel
theorem d_X0_init_33 : decode c_X0_init 33 = .ok (.return_, 1) := by decide +kernel
theorem d_X0_forget_0 : decode c_X0_forget 0 = .ok (.aload_n 0, 1) := by decide +kernel
theorem d_X0_forget_1 : decode c_X0_forget 1 = .ok (.iconst 0, 1) := by decide +kernel
theorem d_X0_forget_2 : decode c_X0_forget 2 = .ok (.putfield 28, 3) := by decide +kernel
theorem d_X0_forget_5 : decode c_X0_forget 5 = .ok (.aload_n 0, 1) := by decide +kernel
theorem d_X0_forget_6 : decode c_X0_forget 6 = .ok (.getfield 24, 3) := by decide +kernel
theorem d_X0_forget_9 : decode c_X0_forget 9 = .ok (.iconst 0, 1) := by decide +kernel
theorem d_X0_forget_10 : decode c_X0_forget 10 = .ok (.putfield 32, 3) := by decide +kernel
theorem d_X0_forget_13 : decode c_X0_forget 13 = .ok (.return_, 1) := by decide +kernel
theorem d_X0_has_0 : decode c_X0_has 0 = .ok (.iload_n 1, 1) := by decide +kernel
theorem d_X0_has_1 : decode c_X0_has 1 = .ok (.ifCond .lt 15, 3) := by decide +kernel
theorem d_X0_has_4 : decode c_X0_has 4 = .ok (.iload_n 1, 1) := by decide +kernel
theorem d_X0_has_5 : decode c_X0_has 5 = .ok (.aload_n 0, 1) := by decide +kernel
theorem d_X0_has_6 : decode c_X0_has 6 = .ok (.getfield 28, 3) := by decide +kernel
theorem d_X0_has_9 : decode c_X0_has 9 = .ok (.if_icmp .ge 7, 3) := by decide +kernel
theorem d_X0_has_12 : decode c_X0_has 12 = .ok (.iconst 1, 1) := by decide +kernel
theorem d_X0_has_13 : decode c_X0_has 13 = .ok (.goto 4, 3) := by decide +kernel
theorem d_X0_has_16 : decode c_X0_has 16 = .ok (.iconst 0, 1) := by decide +kernel
theorem d_X0_has_17 : decode c_X0_has 17 = .ok (.ireturn, 1) := by decide +kernel
theorem d_X0_declare_0 : decode c_X0_declare 0 = .ok (.aload_n 0, 1) := by decide +kernel
theorem d_X0_declare_1 : decode c_X0_declare 1 = .ok (.getfield 9, 3) := by decide +kernel
theorem d_X0_declare_4 : decode c_X0_declare 4 = .ok (.aload_n 0, 1) := by decide +kernel
theorem d_X0_declare_5 : decode c_X0_declare 5 = .ok (.getfield 28, 3) := by decide +kernel
theorem d_X0_declare_8 : decode c_X0_declare 8 = .ok (.iload_n 1, 1) := by decide +kernel
theorem d_X0_declare_9 : decode c_X0_declare 9 = .ok (.bastore, 1) := by decide +kernel
theorem d_X0_declare_10 : decode c_X0_declare 10 = .ok (.aload_n 0, 1) := by decide +kernel
theorem d_X0_declare_11 : decode c_X0_declare 11 = .ok (.dup, 1) := by decide +kernel
theorem d_X0_declare_12 : decode c_X0_declare 12 = .ok (.getfield 28, 3) := by decide +kernel
theorem d_X0_declare_15 : decode c_X0_declare 15 = .ok (.iconst 1, 1) := by decide +kernel
theorem d_X0_declare_16 : decode c_X0_declare 16 = .ok (.iadd, 1) := by decide +kernel
theorem d_X0_declare_17 : decode c_X0_declare 17 = .ok (.putfield 28, 3) := by decide +kernel
theorem d_X0_declare_20 : decode c_X0_declare 20 = .ok (.aload_n 0, 1) := by decide +kernel
theorem d_X0_declare_21 : decode c_X0_declare 21 = .ok (.getfield 28, 3) := by decide +kernel
theorem d_X0_declare_24 : decode c_X0_declare 24 = .ok (.iconst 1, 1) := by decide +kernel
theorem d_X0_declare_25 : decode c_X0_declare 25 = .ok (.isub, 1) := by decide +kernel
theorem d_X0_declare_26 : decode c_X0_declare 26 = .ok (.ireturn, 1) := by decide +kernel
theorem d_X0_valueThatMatters_0 : decode c_X0_valueThatMatters 0 = .ok (.aload_n 0, 1) := by decide +kernel
theorem d_X0_valueThatMatters_1 : decode c_X0_valueThatMatters 1 = .ok (.getfield 9, 3) := by decide +kernel
theorem d_X0_valueThatMatters_4 : decode c_X0_valueThatMatters 4 = .ok (.iload_n 1, 1) := by decide +kernel
theorem d_X0_valueThatMatters_5 : decode c_X0_valueThatMatters 5 = .ok (.baload, 1) := by decide +kernel
theorem d_X0_valueThatMatters_6 : decode c_X0_valueThatMatters 6 = .ok (.ifCond .eq 7, 3) := by decide +kernel
theorem d_X0_valueThatMatters_9 : decode c_X0_valueThatMatters 9 = .ok (.iload_n 2, 1) := by decide +kernel
theorem d_X0_valueThatMatters_10 : decode c_X0_valueThatMatters 10 = .ok (.goto 4, 3) := by decide +kernel
theorem d_X0_valueThatMatters_13 : decode c_X0_valueThatMatters 13 = .ok (.iconst 0, 1) := by decide +kernel
theorem d_X0_valueThatMatters_14 : decode c_X0_valueThatMatters 14 = .ok (.ireturn, 1) := by decide +kernel
theorem d_X0_addCarried_0 : decode c_X0_addCarried 0 = .ok (.aload_n 0, 1) := by decide +kernel
theorem d_X0_addCarried_1 : decode c_X0_addCarried 1 = .ok (.getfield 15, 3) := by decide +kernel
theorem d_X0_addCarried_4 : decode c_X0_addCarried 4 = .ok (.aload_n 0, 1) := by decide +kernel
theorem d_X0_addCarried_5 : decode c_X0_addCarried 5 = .ok (.getfield 24, 3) := by decide +kernel
theorem d_X0_addCarried_8 : decode c_X0_addCarried 8 = .ok (.getfield 32, 3) := by decide +kernel
theorem d_X0_addCarried_11 : decode c_X0_addCarried 11 = .ok (.iload_n 1, 1) := by decide +kernel
theorem d_X0_addCarried_12 : decode c_X0_addCarried 12 = .ok (.iastore, 1) := by decide +kernel
theorem d_X0_addCarried_13 : decode c_X0_addCarried 13 = .ok (.aload_n 0, 1) := by decide +kernel
theorem d_X0_addCarried_14 : decode c_X0_addCarried 14 = .ok (.getfield 24, 3) := by decide +kernel
theorem d_X0_addCarried_17 : decode c_X0_addCarried 17 = .ok (.iload_n 2, 1) := by decide +kernel
theorem d_X0_addCarried_18 : decode c_X0_addCarried 18 = .ok (.aload_n 0, 1) := by decide +kernel
theorem d_X0_addCarried_19 : decode c_X0_addCarried 19 = .ok (.iload_n 2, 1) := by decide +kernel
theorem d_X0_addCarried_20 : decode c_X0_addCarried 20 = .ok (.iload_n 3, 1) := by decide +kernel
theorem d_X0_addCarried_21 : decode c_X0_addCarried 21 = .ok (.invokevirtual 33, 3) := by decide +kernel
theorem d_X0_addCarried_24 : decode c_X0_addCarried 24 = .ok (.invokevirtual 37, 3) := by decide +kernel
theorem d_X0_addCarried_27 : decode c_X0_addCarried 27 = .ok (.return_, 1) := by decide +kernel
theorem d_X0_close_0 : decode c_X0_close 0 = .ok (.aload_n 2, 1) := by decide +kernel
theorem d_X0_close_1 : decode c_X0_close 1 = .ok (.invokevirtual 41, 3) := by decide +kernel
theorem d_X0_close_4 : decode c_X0_close 4 = .ok (.iconst 0, 1) := by decide +kernel
theorem d_X0_close_5 : decode c_X0_close 5 = .ok (.istore_n 3, 1) := by decide +kernel
theorem d_X0_close_6 : decode c_X0_close 6 = .ok (.iload_n 3, 1) := by decide +kernel
theorem d_X0_close_7 : decode c_X0_close 7 = .ok (.aload_n 1, 1) := by decide +kernel
theorem d_X0_close_8 : decode c_X0_close 8 = .ok (.getfield 32, 3) := by decide +kernel
theorem d_X0_close_11 : decode c_X0_close 11 = .ok (.if_icmp .ge 25, 3) := by decide +kernel
theorem d_X0_close_14 : decode c_X0_close 14 = .ok (.aload_n 2, 1) := by decide +kernel
theorem d_X0_close_15 : decode c_X0_close 15 = .ok (.aload_n 1, 1) := by decide +kernel
theorem d_X0_close_16 : decode c_X0_close 16 = .ok (.getfield 46, 3) := by decide +kernel
theorem d_X0_close_19 : decode c_X0_close 19 = .ok (.iload_n 3, 1) := by decide +kernel
theorem d_X0_close_20 : decode c_X0_close 20 = .ok (.iaload, 1) := by decide +kernel
theorem d_X0_close_21 : decode c_X0_close 21 = .ok (.aload_n 1, 1) := by decide +kernel
theorem d_X0_close_22 : decode c_X0_close 22 = .ok (.getfield 49, 3) := by decide +kernel
theorem d_X0_close_25 : decode c_X0_close 25 = .ok (.iload_n 3, 1) := by decide +kernel
theorem d_X0_close_26 : decode c_X0_close 26 = .ok (.iaload, 1) := by decide +kernel
theorem d_X0_close_27 : decode c_X0_close 27 = .ok (.invokevirtual 52, 3) := by decide +kernel
theorem d_X0_close_30 : decode c_X0_close 30 = .ok (.iinc 3 1, 3) := by decide +kernel
theorem d_X0_close_33 : decode c_X0_close 33 = .ok (.goto (-27), 3) := by decide +kernel
theorem d_X0_close_36 : decode c_X0_close 36 = .ok (.iconst 0, 1) := by decide +kernel
theorem d_X0_close_37 : decode c_X0_close 37 = .ok (.istore_n 3, 1) := by decide +kernel
theorem d_X0_close_38 : decode c_X0_close 38 = .ok (.iload_n 3, 1) := by decide +kernel
theorem d_X0_close_39 : decode c_X0_close 39 = .ok (.aload_n 0, 1) := by decide +kernel
theorem d_X0_close_40 : decode c_X0_close 40 = .ok (.getfield 28, 3) := by decide +kernel
theorem d_X0_close_43 : decode c_X0_close 43 = .ok (.if_icmp .ge 69, 3) := by decide +kernel
theorem d_X0_close_46 : decode c_X0_close 46 = .ok (.iconst 0, 1) := by decide +kernel
theorem d_X0_close_47 : decode c_X0_close 47 = .ok (.istore 4, 2) := by decide +kernel
theorem d_X0_close_49 : decode c_X0_close 49 = .ok (.iload 4, 2) := by decide +kernel
theorem d_X0_close_51 : decode c_X0_close 51 = .ok (.aload_n 0, 1) := by decide +kernel
theorem d_X0_close_52 : decode c_X0_close 52 = .ok (.getfield 24, 3) := by decide +kernel
theorem d_X0_close_55 : decode c_X0_close 55 = .ok (.getfield 32, 3) := by decide +kernel
theorem d_X0_close_58 : decode c_X0_close 58 = .ok (.if_icmp .ge 48, 3) := by decide +kernel
theorem d_X0_close_61 : decode c_X0_close 61 = .ok (.aload_n 2, 1) := by decide +kernel
theorem d_X0_close_62 : decode c_X0_close 62 = .ok (.getfield 55, 3) := by decide +kernel
theorem d_X0_close_65 : decode c_X0_close 65 = .ok (.aload_n 0, 1) := by decide +kernel
theorem d_X0_close_66 : decode c_X0_close 66 = .ok (.getfield 15, 3) := by decide +kernel
theorem d_X0_close_69 : decode c_X0_close 69 = .ok (.iload 4, 2) := by decide +kernel
theorem d_X0_close_71 : decode c_X0_close 71 = .ok (.iaload, 1) := by decide +kernel
theorem d_X0_close_72 : decode c_X0_close 72 = .ok (.baload, 1) := by decide +kernel
theorem d_X0_close_73 : decode c_X0_close 73 = .ok (.ifCond .eq 27, 3) := by decide +kernel
theorem d_X0_close_76 : decode c_X0_close 76 = .ok (.aload_n 2, 1) := by decide +kernel
theorem d_X0_close_77 : decode c_X0_close 77 = .ok (.aload_n 0, 1) := by decide +kernel
theorem d_X0_close_78 : decode c_X0_close 78 = .ok (.getfield 24, 3) := by decide +kernel
theorem d_X0_close_81 : decode c_X0_close 81 = .ok (.getfield 46, 3) := by decide +kernel
theorem d_X0_close_84 : decode c_X0_close 84 = .ok (.iload 4, 2) := by decide +kernel
theorem d_X0_close_86 : decode c_X0_close 86 = .ok (.iaload, 1) := by decide +kernel
theorem d_X0_close_87 : decode c_X0_close 87 = .ok (.aload_n 0, 1) := by decide +kernel
theorem d_X0_close_88 : decode c_X0_close 88 = .ok (.getfield 24, 3) := by decide +kernel
theorem d_X0_close_91 : decode c_X0_close 91 = .ok (.getfield 49, 3) := by decide +kernel
theorem d_X0_close_94 : decode c_X0_close 94 = .ok (.iload 4, 2) := by decide +kernel
theorem d_X0_close_96 : decode c_X0_close 96 = .ok (.iaload, 1) := by decide +kernel
theorem d_X0_close_97 : decode c_X0_close 97 = .ok (.invokevirtual 52, 3) := by decide +kernel
theorem d_X0_close_100 : decode c_X0_close 100 = .ok (.iinc 4 1, 3) := by decide +kernel
theorem d_X0_close_103 : decode c_X0_close 103 = .ok (.goto (-54), 3) := by decide +kernel
theorem d_X0_close_106 : decode c_X0_close 106 = .ok (.iinc 3 1, 3) := by decide +kernel
theorem d_X0_close_109 : decode c_X0_close 109 = .ok (.goto (-71), 3) := by decide +kernel
theorem d_X0_close_112 : decode c_X0_close 112 = .ok (.return_, 1) := by decide +kernel
theorem d_X1_init_0 : decode c_X1_init 0 = .ok (.aload_n 0, 1) := by decide +kernel
theorem d_X1_init_1 : decode c_X1_init 1 = .ok (.invokespecial 1, 3) := by decide +kernel
theorem d_X1_init_4 : decode c_X1_init 4 = .ok (.aload_n 0, 1) := by decide +kernel
theorem d_X1_init_5 : decode c_X1_init 5 = .ok (.iload_n 1, 1) := by decide +kernel
theorem d_X1_init_6 : decode c_X1_init 6 = .ok (.newarray .int, 2) := by decide +kernel
theorem d_X1_init_8 : decode c_X1_init 8 = .ok (.putfield 7, 3) := by decide +kernel
theorem d_X1_init_11 : decode c_X1_init 11 = .ok (.aload_n 0, 1) := by decide +kernel
theorem d_X1_init_12 : decode c_X1_init 12 = .ok (.iload_n 1, 1) := by decide +kernel
theorem d_X1_init_13 : decode c_X1_init 13 = .ok (.newarray .int, 2) := by decide +kernel
theorem d_X1_init_15 : decode c_X1_init 15 = .ok (.putfield 13, 3) := by decide +kernel
theorem d_X1_init_18 : decode c_X1_init 18 = .ok (.return_, 1) := by decide +kernel
theorem d_X1_isFull_0 : decode c_X1_isFull 0 = .ok (.aload_n 0, 1) := by decide +kernel
theorem d_X1_isFull_1 : decode c_X1_isFull 1 = .ok (.getfield 16, 3) := by decide +kernel
theorem d_X1_isFull_4 : decode c_X1_isFull 4 = .ok (.aload_n 0, 1) := by decide +kernel
theorem d_X1_isFull_5 : decode c_X1_isFull 5 = .ok (.getfield 7, 3) := by decide +kernel
theorem d_X1_isFull_8 : decode c_X1_isFull 8 = .ok (.arraylength, 1) := by decide +kernel
theorem d_X1_isFull_9 : decode c_X1_isFull 9 = .ok (.if_icmp .lt 7, 3) := by decide +kernel
theorem d_X1_isFull_12 : decode c_X1_isFull 12 = .ok (.iconst 1, 1) := by decide +kernel
theorem d_X1_isFull_13 : decode c_X1_isFull 13 = .ok (.goto 4, 3) := by decide +kernel
theorem d_X1_isFull_16 : decode c_X1_isFull 16 = .ok (.iconst 0, 1) := by decide +kernel
theorem d_X1_isFull_17 : decode c_X1_isFull 17 = .ok (.ireturn, 1) := by decide +kernel
theorem d_X1_add_0 : decode c_X1_add 0 = .ok (.aload_n 0, 1) := by decide +kernel
theorem d_X1_add_1 : decode c_X1_add 1 = .ok (.invokevirtual 20, 3) := by decide +kernel
theorem d_X1_add_4 : decode c_X1_add 4 = .ok (.ifCond .eq 4, 3) := by decide +kernel
theorem d_X1_add_7 : decode c_X1_add 7 = .ok (.return_, 1) := by decide +kernel
theorem d_X1_add_8 : decode c_X1_add 8 = .ok (.aload_n 0, 1) := by decide +kernel
theorem d_X1_add_9 : decode c_X1_add 9 = .ok (.getfield 7, 3) := by decide +kernel
theorem d_X1_add_12 : decode c_X1_add 12 = .ok (.aload_n 0, 1) := by decide +kernel
theorem d_X1_add_13 : decode c_X1_add 13 = .ok (.getfield 16, 3) := by decide +kernel
theorem d_X1_add_16 : decode c_X1_add 16 = .ok (.iload_n 1, 1) := by decide +kernel
theorem d_X1_add_17 : decode c_X1_add 17 = .ok (.iastore, 1) := by decide +kernel
theorem d_X1_add_18 : decode c_X1_add 18 = .ok (.aload_n 0, 1) := by decide +kernel
theorem d_X1_add_19 : decode c_X1_add 19 = .ok (.getfield 13, 3) := by decide +kernel
theorem d_X1_add_22 : decode c_X1_add 22 = .ok (.aload_n 0, 1) := by decide +kernel
theorem d_X1_add_23 : decode c_X1_add 23 = .ok (.getfield 16, 3) := by decide +kernel
theorem d_X1_add_26 : decode c_X1_add 26 = .ok (.iload_n 2, 1) := by decide +kernel
theorem d_X1_add_27 : decode c_X1_add 27 = .ok (.iastore, 1) := by decide +kernel
theorem d_X1_add_28 : decode c_X1_add 28 = .ok (.aload_n 0, 1) := by decide +kernel
theorem d_X1_add_29 : decode c_X1_add 29 = .ok (.dup, 1) := by decide +kernel
theorem d_X1_add_30 : decode c_X1_add 30 = .ok (.getfield 16, 3) := by decide +kernel
theorem d_X1_add_33 : decode c_X1_add 33 = .ok (.iconst 1, 1) := by decide +kernel
theorem d_X1_add_34 : decode c_X1_add 34 = .ok (.iadd, 1) := by decide +kernel
theorem d_X1_add_35 : decode c_X1_add 35 = .ok (.putfield 16, 3) := by decide +kernel
theorem d_X1_add_38 : decode c_X1_add 38 = .ok (.return_, 1) := by decide +kernel
theorem d_X2_init_0 : decode c_X2_init 0 = .ok (.aload_n 0, 1) := by decide +kernel
theorem d_X2_init_1 : decode c_X2_init 1 = .ok (.invokespecial 3, 3) := by decide +kernel
theorem d_X2_init_4 : decode c_X2_init 4 = .ok (.aload_n 0, 1) := by decide +kernel
theorem d_X2_init_5 : decode c_X2_init 5 = .ok (.bipush 21, 2) := by decide +kernel
theorem d_X2_init_7 : decode c_X2_init 7 = .ok (.newarray .int, 2) := by decide +kernel
theorem d_X2_init_9 : decode c_X2_init 9 = .ok (.putfield 9, 3) := by decide +kernel
theorem d_X2_init_12 : decode c_X2_init 12 = .ok (.aload_n 0, 1) := by decide +kernel
theorem d_X2_init_13 : decode c_X2_init 13 = .ok (.bipush 21, 2) := by decide +kernel
theorem d_X2_init_15 : decode c_X2_init 15 = .ok (.newarray .int, 2) := by decide +kernel
theorem d_X2_init_17 : decode c_X2_init 17 = .ok (.putfield 15, 3) := by decide +kernel
theorem d_X2_init_20 : decode c_X2_init 20 = .ok (.return_, 1) := by decide +kernel
theorem d_X2_add_0 : decode c_X2_add 0 = .ok (.aload_n 0, 1) := by decide +kernel
theorem d_X2_add_1 : decode c_X2_add 1 = .ok (.getfield 18, 3) := by decide +kernel
theorem d_X2_add_4 : decode c_X2_add 4 = .ok (.bipush 21, 2) := by decide +kernel
theorem d_X2_add_6 : decode c_X2_add 6 = .ok (.if_icmp .lt 4, 3) := by decide +kernel
theorem d_X2_add_9 : decode c_X2_add 9 = .ok (.return_, 1) := by decide +kernel
theorem d_X2_add_10 : decode c_X2_add 10 = .ok (.aload_n 0, 1) := by decide +kernel
theorem d_X2_add_11 : decode c_X2_add 11 = .ok (.getfield 9, 3) := by decide +kernel
theorem d_X2_add_14 : decode c_X2_add 14 = .ok (.aload_n 0, 1) := by decide +kernel
theorem d_X2_add_15 : decode c_X2_add 15 = .ok (.getfield 18, 3) := by decide +kernel
theorem d_X2_add_18 : decode c_X2_add 18 = .ok (.iload_n 1, 1) := by decide +kernel
theorem d_X2_add_19 : decode c_X2_add 19 = .ok (.iastore, 1) := by decide +kernel
theorem d_X2_add_20 : decode c_X2_add 20 = .ok (.aload_n 0, 1) := by decide +kernel
theorem d_X2_add_21 : decode c_X2_add 21 = .ok (.getfield 15, 3) := by decide +kernel
theorem d_X2_add_24 : decode c_X2_add 24 = .ok (.aload_n 0, 1) := by decide +kernel
theorem d_X2_add_25 : decode c_X2_add 25 = .ok (.getfield 18, 3) := by decide +kernel
theorem d_X2_add_28 : decode c_X2_add 28 = .ok (.iload_n 2, 1) := by decide +kernel
theorem d_X2_add_29 : decode c_X2_add 29 = .ok (.iastore, 1) := by decide +kernel
theorem d_X2_add_30 : decode c_X2_add 30 = .ok (.aload_n 0, 1) := by decide +kernel
theorem d_X2_add_31 : decode c_X2_add 31 = .ok (.dup, 1) := by decide +kernel
theorem d_X2_add_32 : decode c_X2_add 32 = .ok (.getfield 18, 3) := by decide +kernel
theorem d_X2_add_35 : decode c_X2_add 35 = .ok (.iconst 1, 1) := by decide +kernel
theorem d_X2_add_36 : decode c_X2_add 36 = .ok (.iadd, 1) := by decide +kernel
theorem d_X2_add_37 : decode c_X2_add 37 = .ok (.putfield 18, 3) := by decide +kernel
theorem d_X2_add_40 : decode c_X2_add 40 = .ok (.return_, 1) := by decide +kernel
theorem d_X3_init_0 : decode c_X3_init 0 = .ok (.aload_n 0, 1) := by decide +kernel
theorem d_X3_init_1 : decode c_X3_init 1 = .ok (.invokespecial 3, 3) := by decide +kernel
theorem d_X3_init_4 : decode c_X3_init 4 = .ok (.aload_n 0, 1) := by decide +kernel
theorem d_X3_init_5 : decode c_X3_init 5 = .ok (.bipush 8, 2) := by decide +kernel
theorem d_X3_init_7 : decode c_X3_init 7 = .ok (.newarray .boolean, 2) := by decide +kernel
theorem d_X3_init_9 : decode c_X3_init 9 = .ok (.putfield 9, 3) := by decide +kernel
theorem d_X3_init_12 : decode c_X3_init 12 = .ok (.aload_n 0, 1) := by decide +kernel
theorem d_X3_init_13 : decode c_X3_init 13 = .ok (.bipush 8, 2) := by decide +kernel
theorem d_X3_init_15 : decode c_X3_init 15 = .ok (.newarray .int, 2) := by decide +kernel
theorem d_X3_init_17 : decode c_X3_init 17 = .ok (.putfield 15, 3) := by decide +kernel
theorem d_X3_init_20 : decode c_X3_init 20 = .ok (.return_, 1) := by decide +kernel
theorem d_X3_forget_0 : decode c_X3_forget 0 = .ok (.iconst 0, 1) := by decide +kernel
theorem d_X3_forget_1 : decode c_X3_forget 1 = .ok (.istore_n 1, 1) := by decide +kernel
theorem d_X3_forget_2 : decode c_X3_forget 2 = .ok (.iload_n 1, 1) := by decide +kernel
theorem d_X3_forget_3 : decode c_X3_forget 3 = .ok (.bipush 8, 2) := by decide +kernel
theorem d_X3_forget_5 : decode c_X3_forget 5 = .ok (.if_icmp .ge 16, 3) := by decide +kernel
theorem d_X3_forget_8 : decode c_X3_forget 8 = .ok (.aload_n 0, 1) := by decide +kernel
theorem d_X3_forget_9 : decode c_X3_forget 9 = .ok (.getfield 9, 3) := by decide +kernel
theorem d_X3_forget_12 : decode c_X3_forget 12 = .ok (.iload_n 1, 1) := by decide +kernel
theorem d_X3_forget_13 : decode c_X3_forget 13 = .ok (.iconst 0, 1) := by decide +kernel
theorem d_X3_forget_14 : decode c_X3_forget 14 = .ok (.bastore, 1) := by decide +kernel
theorem d_X3_forget_15 : decode c_X3_forget 15 = .ok (.iinc 1 1, 3) := by decide +kernel
theorem d_X3_forget_18 : decode c_X3_forget 18 = .ok (.goto (-16), 3) := by decide +kernel
theorem d_X3_forget_21 : decode c_X3_forget 21 = .ok (.aload_n 0, 1) := by decide +kernel
theorem d_X3_forget_22 : decode c_X3_forget 22 = .ok (.iconst 0, 1) := by decide +kernel
theorem d_X3_forget_23 : decode c_X3_forget 23 = .ok (.putfield 19, 3) := by decide +kernel
theorem d_X3_forget_26 : decode c_X3_forget 26 = .ok (.return_, 1) := by decide +kernel
theorem d_X3_put_0 : decode c_X3_put 0 = .ok (.aload_n 0, 1) := by decide +kernel
theorem d_X3_put_1 : decode c_X3_put 1 = .ok (.getfield 9, 3) := by decide +kernel
theorem d_X3_put_4 : decode c_X3_put 4 = .ok (.iload_n 1, 1) := by decide +kernel
theorem d_X3_put_5 : decode c_X3_put 5 = .ok (.baload, 1) := by decide +kernel
theorem d_X3_put_6 : decode c_X3_put 6 = .ok (.ifCond .ne 20, 3) := by decide +kernel
theorem d_X3_put_9 : decode c_X3_put 9 = .ok (.aload_n 0, 1) := by decide +kernel
theorem d_X3_put_10 : decode c_X3_put 10 = .ok (.getfield 9, 3) := by decide +kernel
theorem d_X3_put_13 : decode c_X3_put 13 = .ok (.iload_n 1, 1) := by decide +kernel
theorem d_X3_put_14 : decode c_X3_put 14 = .ok (.iconst 1, 1) := by decide +kernel
theorem d_X3_put_15 : decode c_X3_put 15 = .ok (.bastore, 1) := by decide +kernel
theorem d_X3_put_16 : decode c_X3_put 16 = .ok (.aload_n 0, 1) := by decide +kernel
theorem d_X3_put_17 : decode c_X3_put 17 = .ok (.getfield 15, 3) := by decide +kernel
theorem d_X3_put_20 : decode c_X3_put 20 = .ok (.iload_n 1, 1) := by decide +kernel
theorem d_X3_put_21 : decode c_X3_put 21 = .ok (.iload_n 2, 1) := by decide +kernel
theorem d_X3_put_22 : decode c_X3_put 22 = .ok (.iastore, 1) := by decide +kernel
theorem d_X3_put_23 : decode c_X3_put 23 = .ok (.goto 18, 3) := by decide +kernel
theorem d_X3_put_26 : decode c_X3_put 26 = .ok (.aload_n 0, 1) := by decide +kernel
theorem d_X3_put_27 : decode c_X3_put 27 = .ok (.getfield 15, 3) := by decide +kernel
theorem d_X3_put_30 : decode c_X3_put 30 = .ok (.iload_n 1, 1) := by decide +kernel
theorem d_X3_put_31 : decode c_X3_put 31 = .ok (.iaload, 1) := by decide +kernel
theorem d_X3_put_32 : decode c_X3_put 32 = .ok (.iload_n 2, 1) := by decide +kernel
theorem d_X3_put_33 : decode c_X3_put 33 = .ok (.if_icmp .eq 8, 3) := by decide +kernel
theorem d_X3_put_36 : decode c_X3_put 36 = .ok (.aload_n 0, 1) := by decide +kernel
theorem d_X3_put_37 : decode c_X3_put 37 = .ok (.iconst 1, 1) := by decide +kernel
theorem d_X3_put_38 : decode c_X3_put 38 = .ok (.putfield 19, 3) := by decide +kernel
theorem d_X3_put_41 : decode c_X3_put 41 = .ok (.return_, 1) := by decide +kernel
theorem d_X3_addMissingTypes_0 : decode c_X3_addMissingTypes 0 = .ok (.iconst 0, 1) := by decide +kernel
theorem d_X3_addMissingTypes_1 : decode c_X3_addMissingTypes 1 = .ok (.istore_n 2, 1) := by decide +kernel
theorem d_X3_addMissingTypes_2 : decode c_X3_addMissingTypes 2 = .ok (.iload_n 2, 1) := by decide +kernel
theorem d_X3_addMissingTypes_3 : decode c_X3_addMissingTypes 3 = .ok (.bipush 8, 2) := by decide +kernel
theorem d_X3_addMissingTypes_5 : decode c_X3_addMissingTypes 5 = .ok (.if_icmp .ge 38, 3) := by decide +kernel
theorem d_X3_addMissingTypes_8 : decode c_X3_addMissingTypes 8 = .ok (.aload_n 1, 1) := by decide +kernel
theorem d_X3_addMissingTypes_9 : decode c_X3_addMissingTypes 9 = .ok (.getfield 9, 3) := by decide +kernel
theorem d_X3_addMissingTypes_12 : decode c_X3_addMissingTypes 12 = .ok (.iload_n 2, 1) := by decide +kernel
theorem d_X3_addMissingTypes_13 : decode c_X3_addMissingTypes 13 = .ok (.baload, 1) := by decide +kernel
theorem d_X3_addMissingTypes_14 : decode c_X3_addMissingTypes 14 = .ok (.ifCond .eq 23, 3) := by decide +kernel
theorem d_X3_addMissingTypes_17 : decode c_X3_addMissingTypes 17 = .ok (.aload_n 0, 1) := by decide +kernel
theorem d_X3_addMissingTypes_18 : decode c_X3_addMissingTypes 18 = .ok (.getfield 9, 3) := by decide +kernel
theorem d_X3_addMissingTypes_21 : decode c_X3_addMissingTypes 21 = .ok (.iload_n 2, 1) := by decide +kernel
theorem d_X3_addMissingTypes_22 : decode c_X3_addMissingTypes 22 = .ok (.baload, 1) := by decide +kernel
theorem d_X3_addMissingTypes_23 : decode c_X3_addMissingTypes 23 = .ok (.ifCond .ne 14, 3) := by decide +kernel
theorem d_X3_addMissingTypes_26 : decode c_X3_addMissingTypes 26 = .ok (.aload_n 0, 1) := by decide +kernel
theorem d_X3_addMissingTypes_27 : decode c_X3_addMissingTypes 27 = .ok (.iload_n 2, 1) := by decide +kernel
theorem d_X3_addMissingTypes_28 : decode c_X3_addMissingTypes 28 = .ok (.aload_n 1, 1) := by decide +kernel
theorem d_X3_addMissingTypes_29 : decode c_X3_addMissingTypes 29 = .ok (.getfield 15, 3) := by decide +kernel
theorem d_X3_addMissingTypes_32 : decode c_X3_addMissingTypes 32 = .ok (.iload_n 2, 1) := by decide +kernel
theorem d_X3_addMissingTypes_33 : decode c_X3_addMissingTypes 33 = .ok (.iaload, 1) := by decide +kernel
theorem d_X3_addMissingTypes_34 : decode c_X3_addMissingTypes 34 = .ok (.invokevirtual 23, 3) := by decide +kernel
theorem d_X3_addMissingTypes_37 : decode c_X3_addMissingTypes 37 = .ok (.iinc 2 1, 3) := by decide +kernel
theorem d_X3_addMissingTypes_40 : decode c_X3_addMissingTypes 40 = .ok (.goto (-38), 3) := by decide +kernel
theorem d_X3_addMissingTypes_43 : decode c_X3_addMissingTypes 43 = .ok (.return_, 1) := by decide +kernel
theorem d_X3_isAmong_0 : decode c_X3_isAmong 0 = .ok (.iconst 0, 1) := by decide +kernel
theorem d_X3_isAmong_1 : decode c_X3_isAmong 1 = .ok (.istore_n 2, 1) := by decide +kernel
theorem d_X3_isAmong_2 : decode c_X3_isAmong 2 = .ok (.iload_n 2, 1) := by decide +kernel
theorem d_X3_isAmong_3 : decode c_X3_isAmong 3 = .ok (.bipush 8, 2) := by decide +kernel
theorem d_X3_isAmong_5 : decode c_X3_isAmong 5 = .ok (.if_icmp .ge 44, 3) := by decide +kernel
theorem d_X3_isAmong_8 : decode c_X3_isAmong 8 = .ok (.aload_n 0, 1) := by decide +kernel
theorem d_X3_isAmong_9 : decode c_X3_isAmong 9 = .ok (.getfield 9, 3) := by decide +kernel
theorem d_X3_isAmong_12 : decode c_X3_isAmong 12 = .ok (.iload_n 2, 1) := by decide +kernel
theorem d_X3_isAmong_13 : decode c_X3_isAmong 13 = .ok (.baload, 1) := by decide +kernel
theorem d_X3_isAmong_14 : decode c_X3_isAmong 14 = .ok (.ifCond .eq 29, 3) := by decide +kernel
theorem d_X3_isAmong_17 : decode c_X3_isAmong 17 = .ok (.aload_n 1, 1) := by decide +kernel
theorem d_X3_isAmong_18 : decode c_X3_isAmong 18 = .ok (.getfield 9, 3) := by decide +kernel
theorem d_X3_isAmong_21 : decode c_X3_isAmong 21 = .ok (.iload_n 2, 1) := by decide +kernel
theorem d_X3_isAmong_22 : decode c_X3_isAmong 22 = .ok (.baload, 1) := by decide +kernel
theorem d_X3_isAmong_23 : decode c_X3_isAmong 23 = .ok (.ifCond .eq 18, 3) := by decide +kernel
theorem d_X3_isAmong_26 : decode c_X3_isAmong 26 = .ok (.aload_n 1, 1) := by decide +kernel
theorem d_X3_isAmong_27 : decode c_X3_isAmong 27 = .ok (.getfield 15, 3) := by decide +kernel
theorem d_X3_isAmong_30 : decode c_X3_isAmong 30 = .ok (.iload_n 2, 1) := by decide +kernel
theorem d_X3_isAmong_31 : decode c_X3_isAmong 31 = .ok (.iaload, 1) := by decide +kernel
theorem d_X3_isAmong_32 : decode c_X3_isAmong 32 = .ok (.aload_n 0, 1) := by decide +kernel
theorem d_X3_isAmong_33 : decode c_X3_isAmong 33 = .ok (.getfield 15, 3) := by decide +kernel
theorem d_X3_isAmong_36 : decode c_X3_isAmong 36 = .ok (.iload_n 2, 1) := by decide +kernel
theorem d_X3_isAmong_37 : decode c_X3_isAmong 37 = .ok (.iaload, 1) := by decide +kernel
theorem d_X3_isAmong_38 : decode c_X3_isAmong 38 = .ok (.if_icmp .eq 5, 3) := by decide +kernel
theorem d_X3_isAmong_41 : decode c_X3_isAmong 41 = .ok (.iconst 0, 1) := by decide +kernel
theorem d_X3_isAmong_42 : decode c_X3_isAmong 42 = .ok (.ireturn, 1) := by decide +kernel
theorem d_X3_isAmong_43 : decode c_X3_isAmong 43 = .ok (.iinc 2 1, 3) := by decide +kernel
theorem d_X3_isAmong_46 : decode c_X3_isAmong 46 = .ok (.goto (-44), 3) := by decide +kernel
theorem d_X3_isAmong_49 : decode c_X3_isAmong 49 = .ok (.iconst 1, 1) := by decide +kernel
theorem d_X3_isAmong_50 : decode c_X3_isAmong 50 = .ok (.ireturn, 1) := by decide +kernel
theorem d_X4_init_0 : decode c_X4_init 0 = .ok (.aload_n 0, 1) := by decide +kernel
theorem d_X4_init_1 : decode c_X4_init 1 = .ok (.invokespecial 3, 3) := by decide +kernel
theorem d_X4_init_4 : decode c_X4_init 4 = .ok (.aload_n 0, 1) := by decide +kernel
theorem d_X4_init_5 : decode c_X4_init 5 = .ok (.new 9, 3) := by decide +kernel
theorem d_X4_init_8 : decode c_X4_init 8 = .ok (.dup, 1) := by decide +kernel
theorem d_X4_init_9 : decode c_X4_init 9 = .ok (.invokespecial 11, 3) := by decide +kernel
theorem d_X4_init_12 : decode c_X4_init 12 = .ok (.putfield 12, 3) := by decide +kernel
theorem d_X4_init_15 : decode c_X4_init 15 = .ok (.aload_n 0, 1) := by decide +kernel
theorem d_X4_init_16 : decode c_X4_init 16 = .ok (.iconst 4, 1) := by decide +kernel
theorem d_X4_init_17 : decode c_X4_init 17 = .ok (.anewarray 9, 3) := by decide +kernel
theorem d_X4_init_20 : decode c_X4_init 20 = .ok (.putfield 18, 3) := by decide +kernel
theorem d_X4_init_23 : decode c_X4_init 23 = .ok (.iconst 0, 1) := by decide +kernel
theorem d_X4_init_24 : decode c_X4_init 24 = .ok (.istore_n 1, 1) := by decide +kernel
theorem d_X4_init_25 : decode c_X4_init 25 = .ok (.iload_n 1, 1) := by decide +kernel
theorem d_X4_init_26 : decode c_X4_init 26 = .ok (.iconst 4, 1) := by decide +kernel
theorem d_X4_init_27 : decode c_X4_init 27 = .ok (.if_icmp .ge 22, 3) := by decide +kernel
theorem d_X4_init_30 : decode c_X4_init 30 = .ok (.aload_n 0, 1) := by decide +kernel
theorem d_X4_init_31 : decode c_X4_init 31 = .ok (.getfield 18, 3) := by decide +kernel
theorem d_X4_init_34 : decode c_X4_init 34 = .ok (.iload_n 1, 1) := by decide +kernel
theorem d_X4_init_35 : decode c_X4_init 35 = .ok (.new 9, 3) := by decide +kernel
theorem d_X4_init_38 : decode c_X4_init 38 = .ok (.dup, 1) := by decide +kernel
theorem d_X4_init_39 : decode c_X4_init 39 = .ok (.invokespecial 11, 3) := by decide +kernel
theorem d_X4_init_42 : decode c_X4_init 42 = .ok (.aastore, 1) := by decide +kernel
theorem d_X4_init_43 : decode c_X4_init 43 = .ok (.iinc 1 1, 3) := by decide +kernel
theorem d_X4_init_46 : decode c_X4_init 46 = .ok (.goto (-21), 3) := by decide +kernel
theorem d_X4_init_49 : decode c_X4_init 49 = .ok (.return_, 1) := by decide +kernel
theorem d_X4_declare_0 : decode c_X4_declare 0 = .ok (.aload_n 0, 1) := by decide +kernel
theorem d_X4_declare_1 : decode c_X4_declare 1 = .ok (.iload_n 1, 1) := by decide +kernel
theorem d_X4_declare_2 : decode c_X4_declare 2 = .ok (.putfield 22, 3) := by decide +kernel
theorem d_X4_declare_5 : decode c_X4_declare 5 = .ok (.aload_n 0, 1) := by decide +kernel
theorem d_X4_declare_6 : decode c_X4_declare 6 = .ok (.getfield 12, 3) := by decide +kernel
theorem d_X4_declare_9 : decode c_X4_declare 9 = .ok (.invokevirtual 26, 3) := by decide +kernel
theorem d_X4_declare_12 : decode c_X4_declare 12 = .ok (.iconst 0, 1) := by decide +kernel
theorem d_X4_declare_13 : decode c_X4_declare 13 = .ok (.istore_n 2, 1) := by decide +kernel
theorem d_X4_declare_14 : decode c_X4_declare 14 = .ok (.iload_n 2, 1) := by decide +kernel
theorem d_X4_declare_15 : decode c_X4_declare 15 = .ok (.iconst 4, 1) := by decide +kernel
theorem d_X4_declare_16 : decode c_X4_declare 16 = .ok (.if_icmp .ge 18, 3) := by decide +kernel
theorem d_X4_declare_19 : decode c_X4_declare 19 = .ok (.aload_n 0, 1) := by decide +kernel
theorem d_X4_declare_20 : decode c_X4_declare 20 = .ok (.getfield 18, 3) := by decide +kernel
theorem d_X4_declare_23 : decode c_X4_declare 23 = .ok (.iload_n 2, 1) := by decide +kernel
theorem d_X4_declare_24 : decode c_X4_declare 24 = .ok (.aaload, 1) := by decide +kernel
theorem d_X4_declare_25 : decode c_X4_declare 25 = .ok (.invokevirtual 26, 3) := by decide +kernel
theorem d_X4_declare_28 : decode c_X4_declare 28 = .ok (.iinc 2 1, 3) := by decide +kernel
theorem d_X4_declare_31 : decode c_X4_declare 31 = .ok (.goto (-17), 3) := by decide +kernel
theorem d_X4_declare_34 : decode c_X4_declare 34 = .ok (.return_, 1) := by decide +kernel
theorem d_X4_place_0 : decode c_X4_place 0 = .ok (.iload_n 1, 1) := by decide +kernel
theorem d_X4_place_1 : decode c_X4_place 1 = .ok (.ifCond .lt 8, 3) := by decide +kernel
theorem d_X4_place_4 : decode c_X4_place 4 = .ok (.iload_n 1, 1) := by decide +kernel
theorem d_X4_place_5 : decode c_X4_place 5 = .ok (.iconst 4, 1) := by decide +kernel
theorem d_X4_place_6 : decode c_X4_place 6 = .ok (.if_icmp .lt 10, 3) := by decide +kernel
theorem d_X4_place_9 : decode c_X4_place 9 = .ok (.aload_n 0, 1) := by decide +kernel
theorem d_X4_place_10 : decode c_X4_place 10 = .ok (.getfield 12, 3) := by decide +kernel
theorem d_X4_place_13 : decode c_X4_place 13 = .ok (.goto 9, 3) := by decide +kernel
theorem d_X4_place_16 : decode c_X4_place 16 = .ok (.aload_n 0, 1) := by decide +kernel
theorem d_X4_place_17 : decode c_X4_place 17 = .ok (.getfield 18, 3) := by decide +kernel
theorem d_X4_place_20 : decode c_X4_place 20 = .ok (.iload_n 1, 1) := by decide +kernel
theorem d_X4_place_21 : decode c_X4_place 21 = .ok (.aaload, 1) := by decide +kernel
theorem d_X4_place_22 : decode c_X4_place 22 = .ok (.areturn, 1) := by decide +kernel
theorem d_X5_init_0 : decode c_X5_init 0 = .ok (.aload_n 0, 1) := by decide +kernel
theorem d_X5_init_1 : decode c_X5_init 1 = .ok (.invokespecial 1, 3) := by decide +kernel
theorem d_X5_init_4 : decode c_X5_init 4 = .ok (.return_, 1) := by decide +kernel
theorem d_X5_declare_0 : decode c_X5_declare 0 = .ok (.aload_n 0, 1) := by decide +kernel
theorem d_X5_declare_1 : decode c_X5_declare 1 = .ok (.iload_n 1, 1) := by decide +kernel
theorem d_X5_declare_2 : decode c_X5_declare 2 = .ok (.putfield 7, 3) := by decide +kernel
theorem d_X5_declare_5 : decode c_X5_declare 5 = .ok (.aload_n 0, 1) := by decide +kernel
theorem d_X5_declare_6 : decode c_X5_declare 6 = .ok (.iload_n 2, 1) := by decide +kernel
theorem d_X5_declare_7 : decode c_X5_declare 7 = .ok (.putfield 13, 3) := by decide +kernel
theorem d_X5_declare_10 : decode c_X5_declare 10 = .ok (.aload_n 0, 1) := by decide +kernel
theorem d_X5_declare_11 : decode c_X5_declare 11 = .ok (.iload_n 3, 1) := by decide +kernel
theorem d_X5_declare_12 : decode c_X5_declare 12 = .ok (.putfield 16, 3) := by decide +kernel
theorem d_X5_declare_15 : decode c_X5_declare 15 = .ok (.aload_n 0, 1) := by decide +kernel
theorem d_X5_declare_16 : decode c_X5_declare 16 = .ok (.iload 4, 2) := by decide +kernel
theorem d_X5_declare_18 : decode c_X5_declare 18 = .ok (.putfield 19, 3) := by decide +kernel
theorem d_X5_declare_21 : decode c_X5_declare 21 = .ok (.return_, 1) := by decide +kernel
theorem d_X5_decorates_0 : decode c_X5_decorates 0 = .ok (.iload_n 1, 1) := by decide +kernel
theorem d_X5_decorates_1 : decode c_X5_decorates 1 = .ok (.aload_n 0, 1) := by decide +kernel
theorem d_X5_decorates_2 : decode c_X5_decorates 2 = .ok (.getfield 13, 3) := by decide +kernel
theorem d_X5_decorates_5 : decode c_X5_decorates 5 = .ok (.ishr, 1) := by decide +kernel
theorem d_X5_decorates_6 : decode c_X5_decorates 6 = .ok (.iconst 1, 1) := by decide +kernel
theorem d_X5_decorates_7 : decode c_X5_decorates 7 = .ok (.iand, 1) := by decide +kernel
theorem d_X5_decorates_8 : decode c_X5_decorates 8 = .ok (.ifCond .eq 18, 3) := by decide +kernel
theorem d_X5_decorates_11 : decode c_X5_decorates 11 = .ok (.aload_n 0, 1) := by decide +kernel
theorem d_X5_decorates_12 : decode c_X5_decorates 12 = .ok (.getfield 16, 3) := by decide +kernel
theorem d_X5_decorates_15 : decode c_X5_decorates 15 = .ok (.iload_n 2, 1) := by decide +kernel
theorem d_X5_decorates_16 : decode c_X5_decorates 16 = .ok (.ishr, 1) := by decide +kernel
theorem d_X5_decorates_17 : decode c_X5_decorates 17 = .ok (.iconst 1, 1) := by decide +kernel
theorem d_X5_decorates_18 : decode c_X5_decorates 18 = .ok (.iand, 1) := by decide +kernel
theorem d_X5_decorates_19 : decode c_X5_decorates 19 = .ok (.ifCond .eq 7, 3) := by decide +kernel
theorem d_X5_decorates_22 : decode c_X5_decorates 22 = .ok (.iconst 1, 1) := by decide +kernel
theorem d_X5_decorates_23 : decode c_X5_decorates 23 = .ok (.goto 4, 3) := by decide +kernel
theorem d_X5_decorates_26 : decode c_X5_decorates 26 = .ok (.iconst 0, 1) := by decide +kernel
theorem d_X5_decorates_27 : decode c_X5_decorates 27 = .ok (.ireturn, 1) := by decide +kernel
theorem d_X6_init_0 : decode c_X6_init 0 = .ok (.aload_n 0, 1) := by decide +kernel
theorem d_X6_init_1 : decode c_X6_init 1 = .ok (.invokespecial 3, 3) := by decide +kernel
theorem d_X6_init_4 : decode c_X6_init 4 = .ok (.aload_n 0, 1) := by decide +kernel
theorem d_X6_init_5 : decode c_X6_init 5 = .ok (.new 9, 3) := by decide +kernel
theorem d_X6_init_8 : decode c_X6_init 8 = .ok (.dup, 1) := by decide +kernel
theorem d_X6_init_9 : decode c_X6_init 9 = .ok (.iconst 4, 1) := by decide +kernel
theorem d_X6_init_10 : decode c_X6_init 10 = .ok (.invokespecial 11, 3) := by decide +kernel
theorem d_X6_init_13 : decode c_X6_init 13 = .ok (.putfield 14, 3) := by decide +kernel
theorem d_X6_init_16 : decode c_X6_init 16 = .ok (.return_, 1) := by decide +kernel
theorem d_X6_declare_0 : decode c_X6_declare 0 = .ok (.aload_n 0, 1) := by decide +kernel
theorem d_X6_declare_1 : decode c_X6_declare 1 = .ok (.iload_n 1, 1) := by decide +kernel
theorem d_X6_declare_2 : decode c_X6_declare 2 = .ok (.putfield 20, 3) := by decide +kernel
theorem d_X6_declare_5 : decode c_X6_declare 5 = .ok (.aload_n 0, 1) := by decide +kernel
theorem d_X6_declare_6 : decode c_X6_declare 6 = .ok (.iload_n 2, 1) := by decide +kernel
theorem d_X6_declare_7 : decode c_X6_declare 7 = .ok (.putfield 24, 3) := by decide +kernel
theorem d_X6_declare_10 : decode c_X6_declare 10 = .ok (.aload_n 0, 1) := by decide +kernel
theorem d_X6_declare_11 : decode c_X6_declare 11 = .ok (.iload_n 3, 1) := by decide +kernel
theorem d_X6_declare_12 : decode c_X6_declare 12 = .ok (.putfield 27, 3) := by decide +kernel
theorem d_X6_declare_15 : decode c_X6_declare 15 = .ok (.aload_n 0, 1) := by decide +kernel
theorem d_X6_declare_16 : decode c_X6_declare 16 = .ok (.getfield 14, 3) := by decide +kernel
theorem d_X6_declare_19 : decode c_X6_declare 19 = .ok (.iconst 0, 1) := by decide +kernel
theorem d_X6_declare_20 : decode c_X6_declare 20 = .ok (.putfield 30, 3) := by decide +kernel
theorem d_X6_declare_23 : decode c_X6_declare 23 = .ok (.return_, 1) := by decide +kernel
theorem d_X6_takesPartIn_0 : decode c_X6_takesPartIn 0 = .ok (.aload_n 0, 1) := by decide +kernel
theorem d_X6_takesPartIn_1 : decode c_X6_takesPartIn 1 = .ok (.getfield 24, 3) := by decide +kernel
theorem d_X6_takesPartIn_4 : decode c_X6_takesPartIn 4 = .ok (.iload_n 1, 1) := by decide +kernel
theorem d_X6_takesPartIn_5 : decode c_X6_takesPartIn 5 = .ok (.iand, 1) := by decide +kernel
theorem d_X6_takesPartIn_6 : decode c_X6_takesPartIn 6 = .ok (.ifCond .eq 7, 3) := by decide +kernel
theorem d_X6_takesPartIn_9 : decode c_X6_takesPartIn 9 = .ok (.iconst 1, 1) := by decide +kernel
theorem d_X6_takesPartIn_10 : decode c_X6_takesPartIn 10 = .ok (.goto 4, 3) := by decide +kernel
theorem d_X6_takesPartIn_13 : decode c_X6_takesPartIn 13 = .ok (.iconst 0, 1) := by decide +kernel
theorem d_X6_takesPartIn_14 : decode c_X6_takesPartIn 14 = .ok (.ireturn, 1) := by decide +kernel
theorem d_X7_init_0 : decode c_X7_init 0 = .ok (.aload_n 0, 1) := by decide +kernel
theorem d_X7_init_1 : decode c_X7_init 1 = .ok (.invokespecial 3, 3) := by decide +kernel
theorem d_X7_init_4 : decode c_X7_init 4 = .ok (.aload_n 0, 1) := by decide +kernel
theorem d_X7_init_5 : decode c_X7_init 5 = .ok (.bipush 64, 2) := by decide +kernel
theorem d_X7_init_7 : decode c_X7_init 7 = .ok (.newarray .int, 2) := by decide +kernel
theorem d_X7_init_9 : decode c_X7_init 9 = .ok (.putfield 9, 3) := by decide +kernel
theorem d_X7_init_12 : decode c_X7_init 12 = .ok (.return_, 1) := by decide +kernel
theorem d_X7_forget_0 : decode c_X7_forget 0 = .ok (.aload_n 0, 1) := by decide +kernel
theorem d_X7_forget_1 : decode c_X7_forget 1 = .ok (.iconst 0, 1) := by decide +kernel
theorem d_X7_forget_2 : decode c_X7_forget 2 = .ok (.putfield 15, 3) := by decide +kernel
theorem d_X7_forget_5 : decode c_X7_forget 5 = .ok (.aload_n 0, 1) := by decide +kernel
theorem d_X7_forget_6 : decode c_X7_forget 6 = .ok (.iconst 0, 1) := by decide +kernel
theorem d_X7_forget_7 : decode c_X7_forget 7 = .ok (.putfield 19, 3) := by decide +kernel
theorem d_X7_forget_10 : decode c_X7_forget 10 = .ok (.aload_n 0, 1) := by decide +kernel
theorem d_X7_forget_11 : decode c_X7_forget 11 = .ok (.iconst 0, 1) := by decide +kernel
theorem d_X7_forget_12 : decode c_X7_forget 12 = .ok (.putfield 22, 3) := by decide +kernel
theorem d_X7_forget_15 : decode c_X7_forget 15 = .ok (.return_, 1) := by decide +kernel
theorem d_X7_run_0 : decode c_X7_run 0 = .ok (.aload_n 0, 1) := by decide +kernel
theorem d_X7_run_1 : decode c_X7_run 1 = .ok (.invokevirtual 25, 3) := by decide +kernel
theorem d_X7_run_4 : decode c_X7_run 4 = .ok (.aload_n 0, 1) := by decide +kernel
theorem d_X7_run_5 : decode c_X7_run 5 = .ok (.iload_n 2, 1) := by decide +kernel
theorem d_X7_run_6 : decode c_X7_run 6 = .ok (.putfield 28, 3) := by decide +kernel
theorem d_X7_run_9 : decode c_X7_run 9 = .ok (.aload_n 0, 1) := by decide +kernel
theorem d_X7_run_10 : decode c_X7_run 10 = .ok (.iload 4, 2) := by decide +kernel
theorem d_X7_run_12 : decode c_X7_run 12 = .ok (.putfield 31, 3) := by decide +kernel
theorem d_X7_run_15 : decode c_X7_run 15 = .ok (.aload_n 0, 1) := by decide +kernel
theorem d_X7_run_16 : decode c_X7_run 16 = .ok (.iload_n 3, 1) := by decide +kernel
theorem d_X7_run_17 : decode c_X7_run 17 = .ok (.putfield 35, 3) := by decide +kernel
theorem d_X7_run_20 : decode c_X7_run 20 = .ok (.aload_n 0, 1) := by decide +kernel
theorem d_X7_run_21 : decode c_X7_run 21 = .ok (.aload_n 1, 1) := by decide +kernel
theorem d_X7_run_22 : decode c_X7_run 22 = .ok (.iconst 0, 1) := by decide +kernel
theorem d_X7_run_23 : decode c_X7_run 23 = .ok (.iload_n 3, 1) := by decide +kernel
theorem d_X7_run_24 : decode c_X7_run 24 = .ok (.invokevirtual 38, 3) := by decide +kernel
theorem d_X7_run_27 : decode c_X7_run 27 = .ok (.istore 5, 2) := by decide +kernel
theorem d_X7_run_29 : decode c_X7_run 29 = .ok (.aload_n 0, 1) := by decide +kernel
theorem d_X7_run_30 : decode c_X7_run 30 = .ok (.aload_n 0, 1) := by decide +kernel
theorem d_X7_run_31 : decode c_X7_run 31 = .ok (.getfield 22, 3) := by decide +kernel
theorem d_X7_run_34 : decode c_X7_run 34 = .ok (.ifCond .ne 8, 3) := by decide +kernel
theorem d_X7_run_37 : decode c_X7_run 37 = .ok (.iload 5, 2) := by decide +kernel
theorem d_X7_run_39 : decode c_X7_run 39 = .ok (.goto 4, 3) := by decide +kernel
theorem d_X7_run_42 : decode c_X7_run 42 = .ok (.iconst 0, 1) := by decide +kernel
theorem d_X7_run_43 : decode c_X7_run 43 = .ok (.putfield 19, 3) := by decide +kernel
theorem d_X7_run_46 : decode c_X7_run 46 = .ok (.return_, 1) := by decide +kernel
theorem d_X7_enter_0 : decode c_X7_enter 0 = .ok (.iload_n 2, 1) := by decide +kernel
theorem d_X7_enter_1 : decode c_X7_enter 1 = .ok (.ifCond .lt 11, 3) := by decide +kernel
theorem d_X7_enter_4 : decode c_X7_enter 4 = .ok (.iload_n 2, 1) := by decide +kernel
theorem d_X7_enter_5 : decode c_X7_enter 5 = .ok (.aload_n 1, 1) := by decide +kernel
theorem d_X7_enter_6 : decode c_X7_enter 6 = .ok (.getfield 42, 3) := by decide +kernel
theorem d_X7_enter_9 : decode c_X7_enter 9 = .ok (.if_icmp .lt 5, 3) := by decide +kernel
theorem d_X7_enter_12 : decode c_X7_enter 12 = .ok (.iconst 0, 1) := by decide +kernel
theorem d_X7_enter_13 : decode c_X7_enter 13 = .ok (.ireturn, 1) := by decide +kernel
theorem d_X7_enter_14 : decode c_X7_enter 14 = .ok (.aload_n 0, 1) := by decide +kernel
theorem d_X7_enter_15 : decode c_X7_enter 15 = .ok (.getfield 15, 3) := by decide +kernel
theorem d_X7_enter_18 : decode c_X7_enter 18 = .ok (.bipush 64, 2) := by decide +kernel
theorem d_X7_enter_20 : decode c_X7_enter 20 = .ok (.if_icmp .lt 10, 3) := by decide +kernel
theorem d_X7_enter_23 : decode c_X7_enter 23 = .ok (.aload_n 0, 1) := by decide +kernel
theorem d_X7_enter_24 : decode c_X7_enter 24 = .ok (.bipush 99, 2) := by decide +kernel
theorem d_X7_enter_26 : decode c_X7_enter 26 = .ok (.invokevirtual 47, 3) := by decide +kernel
theorem d_X7_enter_29 : decode c_X7_enter 29 = .ok (.ireturn, 1) := by decide +kernel
theorem d_X7_enter_30 : decode c_X7_enter 30 = .ok (.aload_n 1, 1) := by decide +kernel
theorem d_X7_enter_31 : decode c_X7_enter 31 = .ok (.getfield 51, 3) := by decide +kernel
theorem d_X7_enter_34 : decode c_X7_enter 34 = .ok (.iload_n 2, 1) := by decide +kernel
theorem d_X7_enter_35 : decode c_X7_enter 35 = .ok (.iaload, 1) := by decide +kernel
theorem d_X7_enter_36 : decode c_X7_enter 36 = .ok (.istore 4, 2) := by decide +kernel
theorem d_X7_enter_38 : decode c_X7_enter 38 = .ok (.aload_n 0, 1) := by decide +kernel
theorem d_X7_enter_39 : decode c_X7_enter 39 = .ok (.getfield 9, 3) := by decide +kernel
theorem d_X7_enter_42 : decode c_X7_enter 42 = .ok (.aload_n 0, 1) := by decide +kernel
theorem d_X7_enter_43 : decode c_X7_enter 43 = .ok (.getfield 15, 3) := by decide +kernel
theorem d_X7_enter_46 : decode c_X7_enter 46 = .ok (.iload 4, 2) := by decide +kernel
theorem d_X7_enter_48 : decode c_X7_enter 48 = .ok (.iastore, 1) := by decide +kernel
theorem d_X7_enter_49 : decode c_X7_enter 49 = .ok (.aload_n 0, 1) := by decide +kernel
theorem d_X7_enter_50 : decode c_X7_enter 50 = .ok (.dup, 1) := by decide +kernel
theorem d_X7_enter_51 : decode c_X7_enter 51 = .ok (.getfield 15, 3) := by decide +kernel
theorem d_X7_enter_54 : decode c_X7_enter 54 = .ok (.iconst 1, 1) := by decide +kernel
theorem d_X7_enter_55 : decode c_X7_enter 55 = .ok (.iadd, 1) := by decide +kernel
theorem d_X7_enter_56 : decode c_X7_enter 56 = .ok (.putfield 15, 3) := by decide +kernel
theorem d_X7_enter_59 : decode c_X7_enter 59 = .ok (.iload 4, 2) := by decide +kernel
theorem d_X7_enter_61 : decode c_X7_enter 61 = .ok (.bipush 32, 2) := by decide +kernel
theorem d_X7_enter_63 : decode c_X7_enter 63 = .ok (.if_icmp .ne 11, 3) := by decide +kernel
theorem d_X7_enter_66 : decode c_X7_enter 66 = .ok (.aload_n 0, 1) := by decide +kernel
theorem d_X7_enter_67 : decode c_X7_enter 67 = .ok (.iload_n 3, 1) := by decide +kernel
theorem d_X7_enter_68 : decode c_X7_enter 68 = .ok (.invokevirtual 54, 3) := by decide +kernel
theorem d_X7_enter_71 : decode c_X7_enter 71 = .ok (.goto 10, 3) := by decide +kernel
theorem d_X7_enter_74 : decode c_X7_enter 74 = .ok (.aload_n 0, 1) := by decide +kernel
theorem d_X7_enter_75 : decode c_X7_enter 75 = .ok (.aload_n 1, 1) := by decide +kernel
theorem d_X7_enter_76 : decode c_X7_enter 76 = .ok (.iload_n 2, 1) := by decide +kernel
theorem d_X7_enter_77 : decode c_X7_enter 77 = .ok (.iload_n 3, 1) := by decide +kernel
theorem d_X7_enter_78 : decode c_X7_enter 78 = .ok (.invokevirtual 57, 3) := by decide +kernel
theorem d_X7_enter_81 : decode c_X7_enter 81 = .ok (.ireturn, 1) := by decide +kernel
theorem d_X7_fail_0 : decode c_X7_fail 0 = .ok (.aload_n 0, 1) := by decide +kernel
theorem d_X7_fail_1 : decode c_X7_fail 1 = .ok (.iload_n 1, 1) := by decide +kernel
theorem d_X7_fail_2 : decode c_X7_fail 2 = .ok (.putfield 22, 3) := by decide +kernel
theorem d_X7_fail_5 : decode c_X7_fail 5 = .ok (.iconst 0, 1) := by decide +kernel
theorem d_X7_fail_6 : decode c_X7_fail 6 = .ok (.ireturn, 1) := by decide +kernel
theorem d_X7_reachTarget_0 : decode c_X7_reachTarget 0 = .ok (.aload_n 0, 1) := by decide +kernel
theorem d_X7_reachTarget_1 : decode c_X7_reachTarget 1 = .ok (.getfield 28, 3) := by decide +kernel
theorem d_X7_reachTarget_4 : decode c_X7_reachTarget 4 = .ok (.iconst 4, 1) := by decide +kernel
theorem d_X7_reachTarget_5 : decode c_X7_reachTarget 5 = .ok (.if_icmp .lt 6, 3) := by decide +kernel
theorem d_X7_reachTarget_8 : decode c_X7_reachTarget 8 = .ok (.bipush 7, 2) := by decide +kernel
theorem d_X7_reachTarget_10 : decode c_X7_reachTarget 10 = .ok (.ireturn, 1) := by decide +kernel
theorem d_X7_reachTarget_11 : decode c_X7_reachTarget 11 = .ok (.aload_n 0, 1) := by decide +kernel
theorem d_X7_reachTarget_12 : decode c_X7_reachTarget 12 = .ok (.getfield 31, 3) := by decide +kernel
theorem d_X7_reachTarget_15 : decode c_X7_reachTarget 15 = .ok (.ifCond .eq 17, 3) := by decide +kernel
theorem d_X7_reachTarget_18 : decode c_X7_reachTarget 18 = .ok (.aload_n 0, 1) := by decide +kernel
theorem d_X7_reachTarget_19 : decode c_X7_reachTarget 19 = .ok (.bipush 33, 2) := by decide +kernel
theorem d_X7_reachTarget_21 : decode c_X7_reachTarget 21 = .ok (.aload_n 0, 1) := by decide +kernel
theorem d_X7_reachTarget_22 : decode c_X7_reachTarget 22 = .ok (.getfield 28, 3) := by decide +kernel
theorem d_X7_reachTarget_25 : decode c_X7_reachTarget 25 = .ok (.iadd, 1) := by decide +kernel
theorem d_X7_reachTarget_26 : decode c_X7_reachTarget 26 = .ok (.invokevirtual 47, 3) := by decide +kernel
theorem d_X7_reachTarget_29 : decode c_X7_reachTarget 29 = .ok (.goto 11, 3) := by decide +kernel
theorem d_X7_reachTarget_32 : decode c_X7_reachTarget 32 = .ok (.iconst 3, 1) := by decide +kernel
theorem d_X7_reachTarget_33 : decode c_X7_reachTarget 33 = .ok (.iload_n 1, 1) := by decide +kernel
theorem d_X7_reachTarget_34 : decode c_X7_reachTarget 34 = .ok (.imul, 1) := by decide +kernel
theorem d_X7_reachTarget_35 : decode c_X7_reachTarget 35 = .ok (.aload_n 0, 1) := by decide +kernel
theorem d_X7_reachTarget_36 : decode c_X7_reachTarget 36 = .ok (.getfield 28, 3) := by decide +kernel
theorem d_X7_reachTarget_39 : decode c_X7_reachTarget 39 = .ok (.iadd, 1) := by decide +kernel
theorem d_X7_reachTarget_40 : decode c_X7_reachTarget 40 = .ok (.ireturn, 1) := by decide +kernel
theorem d_X7_behave_0 : decode c_X7_behave 0 = .ok (.aload_n 1, 1) := by decide +kernel
theorem d_X7_behave_1 : decode c_X7_behave 1 = .ok (.getfield 51, 3) := by decide +kernel
theorem d_X7_behave_4 : decode c_X7_behave 4 = .ok (.iload_n 2, 1) := by decide +kernel
theorem d_X7_behave_5 : decode c_X7_behave 5 = .ok (.iaload, 1) := by decide +kernel
theorem d_X7_behave_6 : decode c_X7_behave 6 = .ok (.istore 4, 2) := by decide +kernel
theorem d_X7_behave_8 : decode c_X7_behave 8 = .ok (.iload 4, 2) := by decide +kernel
theorem d_X7_behave_10 : decode c_X7_behave 10 = .ok (.bipush 16, 2) := by decide +kernel
theorem d_X7_behave_12 : decode c_X7_behave 12 = .ok (.if_icmp .ge 7, 3) := by decide +kernel
theorem d_X7_behave_15 : decode c_X7_behave 15 = .ok (.iconst 1, 1) := by decide +kernel
theorem d_X7_behave_16 : decode c_X7_behave 16 = .ok (.goto 4, 3) := by decide +kernel
theorem d_X7_behave_19 : decode c_X7_behave 19 = .ok (.iconst 0, 1) := by decide +kernel
theorem d_X7_behave_20 : decode c_X7_behave 20 = .ok (.istore 5, 2) := by decide +kernel
theorem d_X7_behave_22 : decode c_X7_behave 22 = .ok (.aload_n 1, 1) := by decide +kernel
theorem d_X7_behave_23 : decode c_X7_behave 23 = .ok (.getfield 60, 3) := by decide +kernel
theorem d_X7_behave_26 : decode c_X7_behave 26 = .ok (.iload_n 2, 1) := by decide +kernel
theorem d_X7_behave_27 : decode c_X7_behave 27 = .ok (.iaload, 1) := by decide +kernel
theorem d_X7_behave_28 : decode c_X7_behave 28 = .ok (.tableswitch 101 1 5 #[36, 44, 58, 84, 93], 36) := by decide +kernel
theorem d_X7_behave_64 : decode c_X7_behave 64 = .ok (.aload_n 0, 1) := by decide +kernel
theorem d_X7_behave_65 : decode c_X7_behave 65 = .ok (.aload_n 1, 1) := by decide +kernel
theorem d_X7_behave_66 : decode c_X7_behave 66 = .ok (.iload_n 2, 1) := by decide +kernel
theorem d_X7_behave_67 : decode c_X7_behave 67 = .ok (.iload_n 3, 1) := by decide +kernel
theorem d_X7_behave_68 : decode c_X7_behave 68 = .ok (.invokevirtual 63, 3) := by decide +kernel
theorem d_X7_behave_71 : decode c_X7_behave 71 = .ok (.ireturn, 1) := by decide +kernel
theorem d_X7_behave_72 : decode c_X7_behave 72 = .ok (.iload 5, 2) := by decide +kernel
theorem d_X7_behave_74 : decode c_X7_behave 74 = .ok (.ifCond .eq 10, 3) := by decide +kernel
theorem d_X7_behave_77 : decode c_X7_behave 77 = .ok (.aload_n 0, 1) := by decide +kernel
theorem d_X7_behave_78 : decode c_X7_behave 78 = .ok (.getfield 35, 3) := by decide +kernel
theorem d_X7_behave_81 : decode c_X7_behave 81 = .ok (.goto 4, 3) := by decide +kernel
theorem d_X7_behave_84 : decode c_X7_behave 84 = .ok (.iload_n 3, 1) := by decide +kernel
theorem d_X7_behave_85 : decode c_X7_behave 85 = .ok (.ireturn, 1) := by decide +kernel
theorem d_X7_behave_86 : decode c_X7_behave 86 = .ok (.iload 5, 2) := by decide +kernel
theorem d_X7_behave_88 : decode c_X7_behave 88 = .ok (.ifCond .eq 12, 3) := by decide +kernel
theorem d_X7_behave_91 : decode c_X7_behave 91 = .ok (.aload_n 0, 1) := by decide +kernel
theorem d_X7_behave_92 : decode c_X7_behave 92 = .ok (.aload_n 1, 1) := by decide +kernel
theorem d_X7_behave_93 : decode c_X7_behave 93 = .ok (.iload_n 2, 1) := by decide +kernel
theorem d_X7_behave_94 : decode c_X7_behave 94 = .ok (.invokevirtual 66, 3) := by decide +kernel
theorem d_X7_behave_97 : decode c_X7_behave 97 = .ok (.goto 14, 3) := by decide +kernel
theorem d_X7_behave_100 : decode c_X7_behave 100 = .ok (.iconst 2, 1) := by decide +kernel
theorem d_X7_behave_101 : decode c_X7_behave 101 = .ok (.aload_n 0, 1) := by decide +kernel
theorem d_X7_behave_102 : decode c_X7_behave 102 = .ok (.aload_n 1, 1) := by decide +kernel
theorem d_X7_behave_103 : decode c_X7_behave 103 = .ok (.iload_n 2, 1) := by decide +kernel
theorem d_X7_behave_104 : decode c_X7_behave 104 = .ok (.iload_n 3, 1) := by decide +kernel
theorem d_X7_behave_105 : decode c_X7_behave 105 = .ok (.iconst 1, 1) := by decide +kernel
theorem d_X7_behave_106 : decode c_X7_behave 106 = .ok (.iadd, 1) := by decide +kernel
theorem d_X7_behave_107 : decode c_X7_behave 107 = .ok (.invokevirtual 70, 3) := by decide +kernel
theorem d_X7_behave_110 : decode c_X7_behave 110 = .ok (.imul, 1) := by decide +kernel
theorem d_X7_behave_111 : decode c_X7_behave 111 = .ok (.ireturn, 1) := by decide +kernel
theorem d_X7_behave_112 : decode c_X7_behave 112 = .ok (.aload_n 0, 1) := by decide +kernel
theorem d_X7_behave_113 : decode c_X7_behave 113 = .ok (.iconst 1, 1) := by decide +kernel
theorem d_X7_behave_114 : decode c_X7_behave 114 = .ok (.iload 4, 2) := by decide +kernel
theorem d_X7_behave_116 : decode c_X7_behave 116 = .ok (.iadd, 1) := by decide +kernel
theorem d_X7_behave_117 : decode c_X7_behave 117 = .ok (.invokevirtual 47, 3) := by decide +kernel
theorem d_X7_behave_120 : decode c_X7_behave 120 = .ok (.ireturn, 1) := by decide +kernel
theorem d_X7_behave_121 : decode c_X7_behave 121 = .ok (.aload_n 0, 1) := by decide +kernel
theorem d_X7_behave_122 : decode c_X7_behave 122 = .ok (.aload_n 1, 1) := by decide +kernel
theorem d_X7_behave_123 : decode c_X7_behave 123 = .ok (.iload_n 2, 1) := by decide +kernel
theorem d_X7_behave_124 : decode c_X7_behave 124 = .ok (.iload_n 3, 1) := by decide +kernel
theorem d_X7_behave_125 : decode c_X7_behave 125 = .ok (.invokevirtual 73, 3) := by decide +kernel
theorem d_X7_behave_128 : decode c_X7_behave 128 = .ok (.ireturn, 1) := by decide +kernel
theorem d_X7_behave_129 : decode c_X7_behave 129 = .ok (.aload_n 0, 1) := by decide +kernel
theorem d_X7_behave_130 : decode c_X7_behave 130 = .ok (.aload_n 1, 1) := by decide +kernel
theorem d_X7_behave_131 : decode c_X7_behave 131 = .ok (.iload_n 2, 1) := by decide +kernel
theorem d_X7_behave_132 : decode c_X7_behave 132 = .ok (.iload_n 3, 1) := by decide +kernel
theorem d_X7_behave_133 : decode c_X7_behave 133 = .ok (.invokevirtual 70, 3) := by decide +kernel
theorem d_X7_behave_136 : decode c_X7_behave 136 = .ok (.ireturn, 1) := by decide +kernel
theorem d_X7_proceed_0 : decode c_X7_proceed 0 = .ok (.aload_n 1, 1) := by decide +kernel
theorem d_X7_proceed_1 : decode c_X7_proceed 1 = .ok (.getfield 51, 3) := by decide +kernel
theorem d_X7_proceed_4 : decode c_X7_proceed 4 = .ok (.iload_n 2, 1) := by decide +kernel
theorem d_X7_proceed_5 : decode c_X7_proceed 5 = .ok (.iaload, 1) := by decide +kernel
theorem d_X7_proceed_6 : decode c_X7_proceed 6 = .ok (.bipush 16, 2) := by decide +kernel
theorem d_X7_proceed_8 : decode c_X7_proceed 8 = .ok (.if_icmp .ge 7, 3) := by decide +kernel
theorem d_X7_proceed_11 : decode c_X7_proceed 11 = .ok (.iconst 1, 1) := by decide +kernel
theorem d_X7_proceed_12 : decode c_X7_proceed 12 = .ok (.goto 4, 3) := by decide +kernel
theorem d_X7_proceed_15 : decode c_X7_proceed 15 = .ok (.iconst 0, 1) := by decide +kernel
theorem d_X7_proceed_16 : decode c_X7_proceed 16 = .ok (.istore 4, 2) := by decide +kernel
theorem d_X7_proceed_18 : decode c_X7_proceed 18 = .ok (.aload_n 0, 1) := by decide +kernel
theorem d_X7_proceed_19 : decode c_X7_proceed 19 = .ok (.aload_n 1, 1) := by decide +kernel
theorem d_X7_proceed_20 : decode c_X7_proceed 20 = .ok (.iload_n 2, 1) := by decide +kernel
theorem d_X7_proceed_21 : decode c_X7_proceed 21 = .ok (.iconst 1, 1) := by decide +kernel
theorem d_X7_proceed_22 : decode c_X7_proceed 22 = .ok (.iadd, 1) := by decide +kernel
theorem d_X7_proceed_23 : decode c_X7_proceed 23 = .ok (.iload 4, 2) := by decide +kernel
theorem d_X7_proceed_25 : decode c_X7_proceed 25 = .ok (.ifCond .eq 10, 3) := by decide +kernel
theorem d_X7_proceed_28 : decode c_X7_proceed 28 = .ok (.aload_n 0, 1) := by decide +kernel
theorem d_X7_proceed_29 : decode c_X7_proceed 29 = .ok (.getfield 35, 3) := by decide +kernel
theorem d_X7_proceed_32 : decode c_X7_proceed 32 = .ok (.goto 4, 3) := by decide +kernel
theorem d_X7_proceed_35 : decode c_X7_proceed 35 = .ok (.iload_n 3, 1) := by decide +kernel
theorem d_X7_proceed_36 : decode c_X7_proceed 36 = .ok (.invokevirtual 38, 3) := by decide +kernel
theorem d_X7_proceed_39 : decode c_X7_proceed 39 = .ok (.ireturn, 1) := by decide +kernel
theorem d_X7_proceedTwice_0 : decode c_X7_proceedTwice 0 = .ok (.aload_n 0, 1) := by decide +kernel
theorem d_X7_proceedTwice_1 : decode c_X7_proceedTwice 1 = .ok (.aload_n 1, 1) := by decide +kernel
theorem d_X7_proceedTwice_2 : decode c_X7_proceedTwice 2 = .ok (.iload_n 2, 1) := by decide +kernel
theorem d_X7_proceedTwice_3 : decode c_X7_proceedTwice 3 = .ok (.iload_n 3, 1) := by decide +kernel
theorem d_X7_proceedTwice_4 : decode c_X7_proceedTwice 4 = .ok (.invokevirtual 70, 3) := by decide +kernel
theorem d_X7_proceedTwice_7 : decode c_X7_proceedTwice 7 = .ok (.istore 4, 2) := by decide +kernel
theorem d_X7_proceedTwice_9 : decode c_X7_proceedTwice 9 = .ok (.aload_n 0, 1) := by decide +kernel
theorem d_X7_proceedTwice_10 : decode c_X7_proceedTwice 10 = .ok (.getfield 22, 3) := by decide +kernel
theorem d_X7_proceedTwice_13 : decode c_X7_proceedTwice 13 = .ok (.ifCond .eq 5, 3) := by decide +kernel
theorem d_X7_proceedTwice_16 : decode c_X7_proceedTwice 16 = .ok (.iconst 0, 1) := by decide +kernel
theorem d_X7_proceedTwice_17 : decode c_X7_proceedTwice 17 = .ok (.ireturn, 1) := by decide +kernel
theorem d_X7_proceedTwice_18 : decode c_X7_proceedTwice 18 = .ok (.iload 4, 2) := by decide +kernel
theorem d_X7_proceedTwice_20 : decode c_X7_proceedTwice 20 = .ok (.aload_n 0, 1) := by decide +kernel
theorem d_X7_proceedTwice_21 : decode c_X7_proceedTwice 21 = .ok (.aload_n 1, 1) := by decide +kernel
theorem d_X7_proceedTwice_22 : decode c_X7_proceedTwice 22 = .ok (.iload_n 2, 1) := by decide +kernel
theorem d_X7_proceedTwice_23 : decode c_X7_proceedTwice 23 = .ok (.iload_n 3, 1) := by decide +kernel
theorem d_X7_proceedTwice_24 : decode c_X7_proceedTwice 24 = .ok (.invokevirtual 70, 3) := by decide +kernel
theorem d_X7_proceedTwice_27 : decode c_X7_proceedTwice 27 = .ok (.iadd, 1) := by decide +kernel
theorem d_X7_proceedTwice_28 : decode c_X7_proceedTwice 28 = .ok (.ireturn, 1) := by decide +kernel
theorem d_X7_growShared_0 : decode c_X7_growShared 0 = .ok (.aload_n 0, 1) := by decide +kernel
theorem d_X7_growShared_1 : decode c_X7_growShared 1 = .ok (.getfield 28, 3) := by decide +kernel
theorem d_X7_growShared_4 : decode c_X7_growShared 4 = .ok (.iconst 4, 1) := by decide +kernel
theorem d_X7_growShared_5 : decode c_X7_growShared 5 = .ok (.if_icmp .lt 10, 3) := by decide +kernel
theorem d_X7_growShared_8 : decode c_X7_growShared 8 = .ok (.aload_n 0, 1) := by decide +kernel
theorem d_X7_growShared_9 : decode c_X7_growShared 9 = .ok (.bipush 50, 2) := by decide +kernel
theorem d_X7_growShared_11 : decode c_X7_growShared 11 = .ok (.invokevirtual 47, 3) := by decide +kernel
theorem d_X7_growShared_14 : decode c_X7_growShared 14 = .ok (.ireturn, 1) := by decide +kernel
theorem d_X7_growShared_15 : decode c_X7_growShared 15 = .ok (.aload_n 0, 1) := by decide +kernel
theorem d_X7_growShared_16 : decode c_X7_growShared 16 = .ok (.dup, 1) := by decide +kernel
theorem d_X7_growShared_17 : decode c_X7_growShared 17 = .ok (.getfield 35, 3) := by decide +kernel
theorem d_X7_growShared_20 : decode c_X7_growShared 20 = .ok (.iconst 1, 1) := by decide +kernel
theorem d_X7_growShared_21 : decode c_X7_growShared 21 = .ok (.iadd, 1) := by decide +kernel
theorem d_X7_growShared_22 : decode c_X7_growShared 22 = .ok (.putfield 35, 3) := by decide +kernel
theorem d_X7_growShared_25 : decode c_X7_growShared 25 = .ok (.iconst 2, 1) := by decide +kernel
theorem d_X7_growShared_26 : decode c_X7_growShared 26 = .ok (.aload_n 0, 1) := by decide +kernel
theorem d_X7_growShared_27 : decode c_X7_growShared 27 = .ok (.aload_n 1, 1) := by decide +kernel
theorem d_X7_growShared_28 : decode c_X7_growShared 28 = .ok (.iload_n 2, 1) := by decide +kernel
theorem d_X7_growShared_29 : decode c_X7_growShared 29 = .ok (.aload_n 0, 1) := by decide +kernel
theorem d_X7_growShared_30 : decode c_X7_growShared 30 = .ok (.getfield 35, 3) := by decide +kernel
theorem d_X7_growShared_33 : decode c_X7_growShared 33 = .ok (.invokevirtual 70, 3) := by decide +kernel
theorem d_X7_growShared_36 : decode c_X7_growShared 36 = .ok (.imul, 1) := by decide +kernel
theorem d_X7_growShared_37 : decode c_X7_growShared 37 = .ok (.ireturn, 1) := by decide +kernel
theorem d_X7_proceedAndCatch_0 : decode c_X7_proceedAndCatch 0 = .ok (.aload_n 0, 1) := by decide +kernel
theorem d_X7_proceedAndCatch_1 : decode c_X7_proceedAndCatch 1 = .ok (.aload_n 1, 1) := by decide +kernel
theorem d_X7_proceedAndCatch_2 : decode c_X7_proceedAndCatch 2 = .ok (.iload_n 2, 1) := by decide +kernel
theorem d_X7_proceedAndCatch_3 : decode c_X7_proceedAndCatch 3 = .ok (.iload_n 3, 1) := by decide +kernel
theorem d_X7_proceedAndCatch_4 : decode c_X7_proceedAndCatch 4 = .ok (.invokevirtual 70, 3) := by decide +kernel
theorem d_X7_proceedAndCatch_7 : decode c_X7_proceedAndCatch 7 = .ok (.istore 4, 2) := by decide +kernel
theorem d_X7_proceedAndCatch_9 : decode c_X7_proceedAndCatch 9 = .ok (.aload_n 0, 1) := by decide +kernel
theorem d_X7_proceedAndCatch_10 : decode c_X7_proceedAndCatch 10 = .ok (.getfield 22, 3) := by decide +kernel
theorem d_X7_proceedAndCatch_13 : decode c_X7_proceedAndCatch 13 = .ok (.ifCond .eq 12, 3) := by decide +kernel
theorem d_X7_proceedAndCatch_16 : decode c_X7_proceedAndCatch 16 = .ok (.aload_n 0, 1) := by decide +kernel
theorem d_X7_proceedAndCatch_17 : decode c_X7_proceedAndCatch 17 = .ok (.getfield 22, 3) := by decide +kernel
theorem d_X7_proceedAndCatch_20 : decode c_X7_proceedAndCatch 20 = .ok (.bipush 99, 2) := by decide +kernel
theorem d_X7_proceedAndCatch_22 : decode c_X7_proceedAndCatch 22 = .ok (.if_icmp .ne 6, 3) := by decide +kernel
theorem d_X7_proceedAndCatch_25 : decode c_X7_proceedAndCatch 25 = .ok (.iload 4, 2) := by decide +kernel
theorem d_X7_proceedAndCatch_27 : decode c_X7_proceedAndCatch 27 = .ok (.ireturn, 1) := by decide +kernel
theorem d_X7_proceedAndCatch_28 : decode c_X7_proceedAndCatch 28 = .ok (.aload_n 0, 1) := by decide +kernel
theorem d_X7_proceedAndCatch_29 : decode c_X7_proceedAndCatch 29 = .ok (.getfield 22, 3) := by decide +kernel
theorem d_X7_proceedAndCatch_32 : decode c_X7_proceedAndCatch 32 = .ok (.istore 5, 2) := by decide +kernel
theorem d_X7_proceedAndCatch_34 : decode c_X7_proceedAndCatch 34 = .ok (.aload_n 0, 1) := by decide +kernel
theorem d_X7_proceedAndCatch_35 : decode c_X7_proceedAndCatch 35 = .ok (.iconst 0, 1) := by decide +kernel
theorem d_X7_proceedAndCatch_36 : decode c_X7_proceedAndCatch 36 = .ok (.putfield 22, 3) := by decide +kernel
theorem d_X7_proceedAndCatch_39 : decode c_X7_proceedAndCatch 39 = .ok (.iload 5, 2) := by decide +kernel
theorem d_X7_proceedAndCatch_41 : decode c_X7_proceedAndCatch 41 = .ok (.ineg, 1) := by decide +kernel
theorem d_X7_proceedAndCatch_42 : decode c_X7_proceedAndCatch 42 = .ok (.ireturn, 1) := by decide +kernel
theorem d_X8_init_0 : decode c_X8_init 0 = .ok (.aload_n 0, 1) := by decide +kernel
theorem d_X8_init_1 : decode c_X8_init 1 = .ok (.invokespecial 3, 3) := by decide +kernel
theorem d_X8_init_4 : decode c_X8_init 4 = .ok (.aload_n 0, 1) := by decide +kernel
theorem d_X8_init_5 : decode c_X8_init 5 = .ok (.new 9, 3) := by decide +kernel
theorem d_X8_init_8 : decode c_X8_init 8 = .ok (.dup, 1) := by decide +kernel
theorem d_X8_init_9 : decode c_X8_init 9 = .ok (.iconst 4, 1) := by decide +kernel
theorem d_X8_init_10 : decode c_X8_init 10 = .ok (.invokespecial 11, 3) := by decide +kernel
theorem d_X8_init_13 : decode c_X8_init 13 = .ok (.putfield 14, 3) := by decide +kernel
theorem d_X8_init_16 : decode c_X8_init 16 = .ok (.aload_n 0, 1) := by decide +kernel
theorem d_X8_init_17 : decode c_X8_init 17 = .ok (.iconst 4, 1) := by decide +kernel
theorem d_X8_init_18 : decode c_X8_init 18 = .ok (.newarray .int, 2) := by decide +kernel
theorem d_X8_init_20 : decode c_X8_init 20 = .ok (.putfield 20, 3) := by decide +kernel
theorem d_X8_init_23 : decode c_X8_init 23 = .ok (.return_, 1) := by decide +kernel
theorem d_X8_forget_0 : decode c_X8_forget 0 = .ok (.aload_n 0, 1) := by decide +kernel
theorem d_X8_forget_1 : decode c_X8_forget 1 = .ok (.getfield 14, 3) := by decide +kernel
theorem d_X8_forget_4 : decode c_X8_forget 4 = .ok (.iconst 0, 1) := by decide +kernel
theorem d_X8_forget_5 : decode c_X8_forget 5 = .ok (.putfield 24, 3) := by decide +kernel
theorem d_X8_forget_8 : decode c_X8_forget 8 = .ok (.aload_n 0, 1) := by decide +kernel
theorem d_X8_forget_9 : decode c_X8_forget 9 = .ok (.iconst 0, 1) := by decide +kernel
theorem d_X8_forget_10 : decode c_X8_forget 10 = .ok (.putfield 28, 3) := by decide +kernel
theorem d_X8_forget_13 : decode c_X8_forget 13 = .ok (.aload_n 0, 1) := by decide +kernel
theorem d_X8_forget_14 : decode c_X8_forget 14 = .ok (.iconst 0, 1) := by decide +kernel
theorem d_X8_forget_15 : decode c_X8_forget 15 = .ok (.putfield 31, 3) := by decide +kernel
theorem d_X8_forget_18 : decode c_X8_forget 18 = .ok (.return_, 1) := by decide +kernel
theorem d_X8_addListed_0 : decode c_X8_addListed 0 = .ok (.aload_n 0, 1) := by decide +kernel
theorem d_X8_addListed_1 : decode c_X8_addListed 1 = .ok (.getfield 20, 3) := by decide +kernel
theorem d_X8_addListed_4 : decode c_X8_addListed 4 = .ok (.aload_n 0, 1) := by decide +kernel
theorem d_X8_addListed_5 : decode c_X8_addListed 5 = .ok (.getfield 28, 3) := by decide +kernel
theorem d_X8_addListed_8 : decode c_X8_addListed 8 = .ok (.iload_n 1, 1) := by decide +kernel
theorem d_X8_addListed_9 : decode c_X8_addListed 9 = .ok (.iastore, 1) := by decide +kernel
theorem d_X8_addListed_10 : decode c_X8_addListed 10 = .ok (.aload_n 0, 1) := by decide +kernel
theorem d_X8_addListed_11 : decode c_X8_addListed 11 = .ok (.dup, 1) := by decide +kernel
theorem d_X8_addListed_12 : decode c_X8_addListed 12 = .ok (.getfield 28, 3) := by decide +kernel
theorem d_X8_addListed_15 : decode c_X8_addListed 15 = .ok (.iconst 1, 1) := by decide +kernel
theorem d_X8_addListed_16 : decode c_X8_addListed 16 = .ok (.iadd, 1) := by decide +kernel
theorem d_X8_addListed_17 : decode c_X8_addListed 17 = .ok (.putfield 28, 3) := by decide +kernel
theorem d_X8_addListed_20 : decode c_X8_addListed 20 = .ok (.return_, 1) := by decide +kernel
theorem d_X8_has_0 : decode c_X8_has 0 = .ok (.aload_n 0, 1) := by decide +kernel
theorem d_X8_has_1 : decode c_X8_has 1 = .ok (.getfield 31, 3) := by decide +kernel
theorem d_X8_has_4 : decode c_X8_has 4 = .ok (.iload_n 1, 1) := by decide +kernel
theorem d_X8_has_5 : decode c_X8_has 5 = .ok (.iand, 1) := by decide +kernel
theorem d_X8_has_6 : decode c_X8_has 6 = .ok (.ifCond .eq 7, 3) := by decide +kernel
theorem d_X8_has_9 : decode c_X8_has 9 = .ok (.iconst 1, 1) := by decide +kernel
theorem d_X8_has_10 : decode c_X8_has 10 = .ok (.goto 4, 3) := by decide +kernel
theorem d_X8_has_13 : decode c_X8_has 13 = .ok (.iconst 0, 1) := by decide +kernel
theorem d_X8_has_14 : decode c_X8_has 14 = .ok (.ireturn, 1) := by decide +kernel
end
section
theorem d_X9_init_0 : decode c_X9_init 0 = .ok (.aload_n 0, 1) := by decide +kernel
theorem d_X9_init_1 : decode c_X9_init 1 = .ok (.invokespecial 1, 3) := by decide +kernel
theorem d_X9_init_4 : decode c_X9_init 4 = .ok (.aload_n 0, 1) := by decide +kernel
theorem d_X9_init_5 : decode c_X9_init 5 = .ok (.new 7, 3) := by decide +kernel
theorem d_X9_init_8 : decode c_X9_init 8 = .ok (.dup, 1) := by decide +kernel
theorem d_X9_init_9 : decode c_X9_init 9 = .ok (.invokespecial 9, 3) := by decide +kernel
theorem d_X9_init_12 : decode c_X9_init 12 = .ok (.putfield 10, 3) := by decide +kernel
theorem d_X9_init_15 : decode c_X9_init 15 = .ok (.aload_n 0, 1) := by decide +kernel
theorem d_X9_init_16 : decode c_X9_init 16 = .ok (.bipush 8, 2) := by decide +kernel
theorem d_X9_init_18 : decode c_X9_init 18 = .ok (.anewarray 16, 3) := by decide +kernel
theorem d_X9_init_21 : decode c_X9_init 21 = .ok (.putfield 18, 3) := by decide +kernel
theorem d_X9_init_24 : decode c_X9_init 24 = .ok (.iconst 0, 1) := by decide +kernel
theorem d_X9_init_25 : decode c_X9_init 25 = .ok (.istore_n 1, 1) := by decide +kernel
theorem d_X9_init_26 : decode c_X9_init 26 = .ok (.iload_n 1, 1) := by decide +kernel
theorem d_X9_init_27 : decode c_X9_init 27 = .ok (.bipush 8, 2) := by decide +kernel
theorem d_X9_init_29 : decode c_X9_init 29 = .ok (.if_icmp .ge 22, 3) := by decide +kernel
theorem d_X9_init_32 : decode c_X9_init 32 = .ok (.aload_n 0, 1) := by decide +kernel
theorem d_X9_init_33 : decode c_X9_init 33 = .ok (.getfield 18, 3) := by decide +kernel
theorem d_X9_init_36 : decode c_X9_init 36 = .ok (.iload_n 1, 1) := by decide +kernel
theorem d_X9_init_37 : decode c_X9_init 37 = .ok (.new 16, 3) := by decide +kernel
theorem d_X9_init_40 : decode c_X9_init 40 = .ok (.dup, 1) := by decide +kernel
theorem d_X9_init_41 : decode c_X9_init 41 = .ok (.invokespecial 22, 3) := by decide +kernel
theorem d_X9_init_44 : decode c_X9_init 44 = .ok (.aastore, 1) := by decide +kernel
theorem d_X9_init_45 : decode c_X9_init 45 = .ok (.iinc 1 1, 3) := by decide +kernel
theorem d_X9_init_48 : decode c_X9_init 48 = .ok (.goto (-22), 3) := by decide +kernel
theorem d_X9_init_51 : decode c_X9_init 51 = .ok (.aload_n 0, 1) := by decide +kernel
theorem d_X9_init_52 : decode c_X9_init 52 = .ok (.iconst 4, 1) := by decide +kernel
theorem d_X9_init_53 : decode c_X9_init 53 = .ok (.anewarray 23, 3) := by decide +kernel
theorem d_X9_init_56 : decode c_X9_init 56 = .ok (.putfield 25, 3) := by decide +kernel
theorem d_X9_init_59 : decode c_X9_init 59 = .ok (.iconst 0, 1) := by decide +kernel
theorem d_X9_init_60 : decode c_X9_init 60 = .ok (.istore_n 1, 1) := by decide +kernel
theorem d_X9_init_61 : decode c_X9_init 61 = .ok (.iload_n 1, 1) := by decide +kernel
theorem d_X9_init_62 : decode c_X9_init 62 = .ok (.iconst 4, 1) := by decide +kernel
theorem d_X9_init_63 : decode c_X9_init 63 = .ok (.if_icmp .ge 22, 3) := by decide +kernel
theorem d_X9_init_66 : decode c_X9_init 66 = .ok (.aload_n 0, 1) := by decide +kernel
theorem d_X9_init_67 : decode c_X9_init 67 = .ok (.getfield 25, 3) := by decide +kernel
theorem d_X9_init_70 : decode c_X9_init 70 = .ok (.iload_n 1, 1) := by decide +kernel
theorem d_X9_init_71 : decode c_X9_init 71 = .ok (.new 23, 3) := by decide +kernel
theorem d_X9_init_74 : decode c_X9_init 74 = .ok (.dup, 1) := by decide +kernel
theorem d_X9_init_75 : decode c_X9_init 75 = .ok (.invokespecial 29, 3) := by decide +kernel
theorem d_X9_init_78 : decode c_X9_init 78 = .ok (.aastore, 1) := by decide +kernel
theorem d_X9_init_79 : decode c_X9_init 79 = .ok (.iinc 1 1, 3) := by decide +kernel
theorem d_X9_init_82 : decode c_X9_init 82 = .ok (.goto (-21), 3) := by decide +kernel
theorem d_X9_init_85 : decode c_X9_init 85 = .ok (.aload_n 0, 1) := by decide +kernel
theorem d_X9_init_86 : decode c_X9_init 86 = .ok (.iconst 4, 1) := by decide +kernel
theorem d_X9_init_87 : decode c_X9_init 87 = .ok (.anewarray 30, 3) := by decide +kernel
theorem d_X9_init_90 : decode c_X9_init 90 = .ok (.putfield 32, 3) := by decide +kernel
theorem d_X9_init_93 : decode c_X9_init 93 = .ok (.iconst 0, 1) := by decide +kernel
theorem d_X9_init_94 : decode c_X9_init 94 = .ok (.istore_n 1, 1) := by decide +kernel
theorem d_X9_init_95 : decode c_X9_init 95 = .ok (.iload_n 1, 1) := by decide +kernel
theorem d_X9_init_96 : decode c_X9_init 96 = .ok (.iconst 4, 1) := by decide +kernel
theorem d_X9_init_97 : decode c_X9_init 97 = .ok (.if_icmp .ge 22, 3) := by decide +kernel
theorem d_X9_init_100 : decode c_X9_init 100 = .ok (.aload_n 0, 1) := by decide +kernel
theorem d_X9_init_101 : decode c_X9_init 101 = .ok (.getfield 32, 3) := by decide +kernel
theorem d_X9_init_104 : decode c_X9_init 104 = .ok (.iload_n 1, 1) := by decide +kernel
theorem d_X9_init_105 : decode c_X9_init 105 = .ok (.new 30, 3) := by decide +kernel
theorem d_X9_init_108 : decode c_X9_init 108 = .ok (.dup, 1) := by decide +kernel
theorem d_X9_init_109 : decode c_X9_init 109 = .ok (.invokespecial 36, 3) := by decide +kernel
theorem d_X9_init_112 : decode c_X9_init 112 = .ok (.aastore, 1) := by decide +kernel
theorem d_X9_init_113 : decode c_X9_init 113 = .ok (.iinc 1 1, 3) := by decide +kernel
theorem d_X9_init_116 : decode c_X9_init 116 = .ok (.goto (-21), 3) := by decide +kernel
theorem d_X9_init_119 : decode c_X9_init 119 = .ok (.aload_n 0, 1) := by decide +kernel
theorem d_X9_init_120 : decode c_X9_init 120 = .ok (.new 37, 3) := by decide +kernel
theorem d_X9_init_123 : decode c_X9_init 123 = .ok (.dup, 1) := by decide +kernel
theorem d_X9_init_124 : decode c_X9_init 124 = .ok (.invokespecial 39, 3) := by decide +kernel
theorem d_X9_init_127 : decode c_X9_init 127 = .ok (.putfield 40, 3) := by decide +kernel
theorem d_X9_init_130 : decode c_X9_init 130 = .ok (.aload_n 0, 1) := by decide +kernel
theorem d_X9_init_131 : decode c_X9_init 131 = .ok (.new 37, 3) := by decide +kernel
theorem d_X9_init_134 : decode c_X9_init 134 = .ok (.dup, 1) := by decide +kernel
theorem d_X9_init_135 : decode c_X9_init 135 = .ok (.invokespecial 39, 3) := by decide +kernel
theorem d_X9_init_138 : decode c_X9_init 138 = .ok (.putfield 44, 3) := by decide +kernel
theorem d_X9_init_141 : decode c_X9_init 141 = .ok (.aload_n 0, 1) := by decide +kernel
theorem d_X9_init_142 : decode c_X9_init 142 = .ok (.new 47, 3) := by decide +kernel
theorem d_X9_init_145 : decode c_X9_init 145 = .ok (.dup, 1) := by decide +kernel
theorem d_X9_init_146 : decode c_X9_init 146 = .ok (.invokespecial 49, 3) := by decide +kernel
theorem d_X9_init_149 : decode c_X9_init 149 = .ok (.putfield 50, 3) := by decide +kernel
theorem d_X9_init_152 : decode c_X9_init 152 = .ok (.aload_n 0, 1) := by decide +kernel
theorem d_X9_init_153 : decode c_X9_init 153 = .ok (.new 54, 3) := by decide +kernel
theorem d_X9_init_156 : decode c_X9_init 156 = .ok (.dup, 1) := by decide +kernel
theorem d_X9_init_157 : decode c_X9_init 157 = .ok (.invokespecial 56, 3) := by decide +kernel
theorem d_X9_init_160 : decode c_X9_init 160 = .ok (.putfield 57, 3) := by decide +kernel
theorem d_X9_init_163 : decode c_X9_init 163 = .ok (.return_, 1) := by decide +kernel
theorem d_X9_clear_0 : decode c_X9_clear 0 = .ok (.aload_n 0, 1) := by decide +kernel
theorem d_X9_clear_1 : decode c_X9_clear 1 = .ok (.getfield 10, 3) := by decide +kernel
theorem d_X9_clear_4 : decode c_X9_clear 4 = .ok (.invokevirtual 61, 3) := by decide +kernel
theorem d_X9_clear_7 : decode c_X9_clear 7 = .ok (.aload_n 0, 1) := by decide +kernel
theorem d_X9_clear_8 : decode c_X9_clear 8 = .ok (.iconst 0, 1) := by decide +kernel
theorem d_X9_clear_9 : decode c_X9_clear 9 = .ok (.putfield 64, 3) := by decide +kernel
theorem d_X9_clear_12 : decode c_X9_clear 12 = .ok (.aload_n 0, 1) := by decide +kernel
theorem d_X9_clear_13 : decode c_X9_clear 13 = .ok (.iconst 0, 1) := by decide +kernel
theorem d_X9_clear_14 : decode c_X9_clear 14 = .ok (.putfield 68, 3) := by decide +kernel
theorem d_X9_clear_17 : decode c_X9_clear 17 = .ok (.aload_n 0, 1) := by decide +kernel
theorem d_X9_clear_18 : decode c_X9_clear 18 = .ok (.iconst 0, 1) := by decide +kernel
theorem d_X9_clear_19 : decode c_X9_clear 19 = .ok (.putfield 71, 3) := by decide +kernel
theorem d_X9_clear_22 : decode c_X9_clear 22 = .ok (.aload_n 0, 1) := by decide +kernel
theorem d_X9_clear_23 : decode c_X9_clear 23 = .ok (.iconst 0, 1) := by decide +kernel
theorem d_X9_clear_24 : decode c_X9_clear 24 = .ok (.putfield 74, 3) := by decide +kernel
theorem d_X9_clear_27 : decode c_X9_clear 27 = .ok (.aload_n 0, 1) := by decide +kernel
theorem d_X9_clear_28 : decode c_X9_clear 28 = .ok (.getfield 57, 3) := by decide +kernel
theorem d_X9_clear_31 : decode c_X9_clear 31 = .ok (.invokevirtual 78, 3) := by decide +kernel
theorem d_X9_clear_34 : decode c_X9_clear 34 = .ok (.return_, 1) := by decide +kernel
theorem d_X9_binding_0 : decode c_X9_binding 0 = .ok (.aload_n 0, 1) := by decide +kernel
theorem d_X9_binding_1 : decode c_X9_binding 1 = .ok (.getfield 74, 3) := by decide +kernel
theorem d_X9_binding_4 : decode c_X9_binding 4 = .ok (.ifCond .eq 6, 3) := by decide +kernel
theorem d_X9_binding_7 : decode c_X9_binding 7 = .ok (.bipush (-2), 2) := by decide +kernel
theorem d_X9_binding_9 : decode c_X9_binding 9 = .ok (.ireturn, 1) := by decide +kernel
theorem d_X9_binding_10 : decode c_X9_binding 10 = .ok (.aload_n 0, 1) := by decide +kernel
theorem d_X9_binding_11 : decode c_X9_binding 11 = .ok (.getfield 10, 3) := by decide +kernel
theorem d_X9_binding_14 : decode c_X9_binding 14 = .ok (.getfield 79, 3) := by decide +kernel
theorem d_X9_binding_17 : decode c_X9_binding 17 = .ok (.bipush 8, 2) := by decide +kernel
theorem d_X9_binding_19 : decode c_X9_binding 19 = .ok (.if_icmp .ne 6, 3) := by decide +kernel
theorem d_X9_binding_22 : decode c_X9_binding 22 = .ok (.bipush (-5), 2) := by decide +kernel
theorem d_X9_binding_24 : decode c_X9_binding 24 = .ok (.ireturn, 1) := by decide +kernel
theorem d_X9_binding_25 : decode c_X9_binding 25 = .ok (.aload_n 0, 1) := by decide +kernel
theorem d_X9_binding_26 : decode c_X9_binding 26 = .ok (.getfield 10, 3) := by decide +kernel
theorem d_X9_binding_29 : decode c_X9_binding 29 = .ok (.iload_n 1, 1) := by decide +kernel
theorem d_X9_binding_30 : decode c_X9_binding 30 = .ok (.invokevirtual 82, 3) := by decide +kernel
theorem d_X9_binding_33 : decode c_X9_binding 33 = .ok (.ireturn, 1) := by decide +kernel
theorem d_X9_carry_0 : decode c_X9_carry 0 = .ok (.aload_n 0, 1) := by decide +kernel
theorem d_X9_carry_1 : decode c_X9_carry 1 = .ok (.getfield 74, 3) := by decide +kernel
theorem d_X9_carry_4 : decode c_X9_carry 4 = .ok (.ifCond .eq 6, 3) := by decide +kernel
theorem d_X9_carry_7 : decode c_X9_carry 7 = .ok (.bipush (-2), 2) := by decide +kernel
theorem d_X9_carry_9 : decode c_X9_carry 9 = .ok (.ireturn, 1) := by decide +kernel
theorem d_X9_carry_10 : decode c_X9_carry 10 = .ok (.aload_n 0, 1) := by decide +kernel
theorem d_X9_carry_11 : decode c_X9_carry 11 = .ok (.getfield 10, 3) := by decide +kernel
theorem d_X9_carry_14 : decode c_X9_carry 14 = .ok (.iload_n 1, 1) := by decide +kernel
theorem d_X9_carry_15 : decode c_X9_carry 15 = .ok (.invokevirtual 86, 3) := by decide +kernel
theorem d_X9_carry_18 : decode c_X9_carry 18 = .ok (.ifCond .eq 14, 3) := by decide +kernel
theorem d_X9_carry_21 : decode c_X9_carry 21 = .ok (.aload_n 0, 1) := by decide +kernel
theorem d_X9_carry_22 : decode c_X9_carry 22 = .ok (.getfield 10, 3) := by decide +kernel
theorem d_X9_carry_25 : decode c_X9_carry 25 = .ok (.iload_n 2, 1) := by decide +kernel
theorem d_X9_carry_26 : decode c_X9_carry 26 = .ok (.invokevirtual 86, 3) := by decide +kernel
theorem d_X9_carry_29 : decode c_X9_carry 29 = .ok (.ifCond .ne 6, 3) := by decide +kernel
theorem d_X9_carry_32 : decode c_X9_carry 32 = .ok (.bipush (-3), 2) := by decide +kernel
theorem d_X9_carry_34 : decode c_X9_carry 34 = .ok (.ireturn, 1) := by decide +kernel
theorem d_X9_carry_35 : decode c_X9_carry 35 = .ok (.aload_n 0, 1) := by decide +kernel
theorem d_X9_carry_36 : decode c_X9_carry 36 = .ok (.getfield 10, 3) := by decide +kernel
theorem d_X9_carry_39 : decode c_X9_carry 39 = .ok (.getfield 90, 3) := by decide +kernel
theorem d_X9_carry_42 : decode c_X9_carry 42 = .ok (.invokevirtual 94, 3) := by decide +kernel
theorem d_X9_carry_45 : decode c_X9_carry 45 = .ok (.ifCond .eq 6, 3) := by decide +kernel
theorem d_X9_carry_48 : decode c_X9_carry 48 = .ok (.bipush (-5), 2) := by decide +kernel
theorem d_X9_carry_50 : decode c_X9_carry 50 = .ok (.ireturn, 1) := by decide +kernel
theorem d_X9_carry_51 : decode c_X9_carry 51 = .ok (.aload_n 0, 1) := by decide +kernel
theorem d_X9_carry_52 : decode c_X9_carry 52 = .ok (.getfield 10, 3) := by decide +kernel
theorem d_X9_carry_55 : decode c_X9_carry 55 = .ok (.iload_n 1, 1) := by decide +kernel
theorem d_X9_carry_56 : decode c_X9_carry 56 = .ok (.iload_n 2, 1) := by decide +kernel
theorem d_X9_carry_57 : decode c_X9_carry 57 = .ok (.iload_n 3, 1) := by decide +kernel
theorem d_X9_carry_58 : decode c_X9_carry 58 = .ok (.invokevirtual 100, 3) := by decide +kernel
theorem d_X9_carry_61 : decode c_X9_carry 61 = .ok (.iconst 0, 1) := by decide +kernel
theorem d_X9_carry_62 : decode c_X9_carry 62 = .ok (.ireturn, 1) := by decide +kernel
theorem d_X9_interceptor_0 : decode c_X9_interceptor 0 = .ok (.aload_n 0, 1) := by decide +kernel
theorem d_X9_interceptor_1 : decode c_X9_interceptor 1 = .ok (.getfield 74, 3) := by decide +kernel
theorem d_X9_interceptor_4 : decode c_X9_interceptor 4 = .ok (.ifCond .eq 6, 3) := by decide +kernel
theorem d_X9_interceptor_7 : decode c_X9_interceptor 7 = .ok (.bipush (-2), 2) := by decide +kernel
theorem d_X9_interceptor_9 : decode c_X9_interceptor 9 = .ok (.ireturn, 1) := by decide +kernel
theorem d_X9_interceptor_10 : decode c_X9_interceptor 10 = .ok (.iload_n 1, 1) := by decide +kernel
theorem d_X9_interceptor_11 : decode c_X9_interceptor 11 = .ok (.bipush 9, 2) := by decide +kernel
theorem d_X9_interceptor_13 : decode c_X9_interceptor 13 = .ok (.invokestatic 104, 3) := by decide +kernel
theorem d_X9_interceptor_16 : decode c_X9_interceptor 16 = .ok (.ifCond .eq 20, 3) := by decide +kernel
theorem d_X9_interceptor_19 : decode c_X9_interceptor 19 = .ok (.iload_n 2, 1) := by decide +kernel
theorem d_X9_interceptor_20 : decode c_X9_interceptor 20 = .ok (.bipush 15, 2) := by decide +kernel
theorem d_X9_interceptor_22 : decode c_X9_interceptor 22 = .ok (.invokestatic 104, 3) := by decide +kernel
theorem d_X9_interceptor_25 : decode c_X9_interceptor 25 = .ok (.ifCond .eq 11, 3) := by decide +kernel
theorem d_X9_interceptor_28 : decode c_X9_interceptor 28 = .ok (.iload_n 3, 1) := by decide +kernel
theorem d_X9_interceptor_29 : decode c_X9_interceptor 29 = .ok (.iconst 5, 1) := by decide +kernel
theorem d_X9_interceptor_30 : decode c_X9_interceptor 30 = .ok (.invokestatic 104, 3) := by decide +kernel
theorem d_X9_interceptor_33 : decode c_X9_interceptor 33 = .ok (.ifCond .ne 6, 3) := by decide +kernel
theorem d_X9_interceptor_36 : decode c_X9_interceptor 36 = .ok (.bipush (-4), 2) := by decide +kernel
theorem d_X9_interceptor_38 : decode c_X9_interceptor 38 = .ok (.ireturn, 1) := by decide +kernel
theorem d_X9_interceptor_39 : decode c_X9_interceptor 39 = .ok (.aload_n 0, 1) := by decide +kernel
theorem d_X9_interceptor_40 : decode c_X9_interceptor 40 = .ok (.getfield 64, 3) := by decide +kernel
theorem d_X9_interceptor_43 : decode c_X9_interceptor 43 = .ok (.bipush 8, 2) := by decide +kernel
theorem d_X9_interceptor_45 : decode c_X9_interceptor 45 = .ok (.if_icmp .ne 6, 3) := by decide +kernel
theorem d_X9_interceptor_48 : decode c_X9_interceptor 48 = .ok (.bipush (-5), 2) := by decide +kernel
theorem d_X9_interceptor_50 : decode c_X9_interceptor 50 = .ok (.ireturn, 1) := by decide +kernel
theorem d_X9_interceptor_51 : decode c_X9_interceptor 51 = .ok (.aload_n 0, 1) := by decide +kernel
theorem d_X9_interceptor_52 : decode c_X9_interceptor 52 = .ok (.getfield 18, 3) := by decide +kernel
theorem d_X9_interceptor_55 : decode c_X9_interceptor 55 = .ok (.aload_n 0, 1) := by decide +kernel
theorem d_X9_interceptor_56 : decode c_X9_interceptor 56 = .ok (.getfield 64, 3) := by decide +kernel
theorem d_X9_interceptor_59 : decode c_X9_interceptor 59 = .ok (.aaload, 1) := by decide +kernel
theorem d_X9_interceptor_60 : decode c_X9_interceptor 60 = .ok (.iload_n 1, 1) := by decide +kernel
theorem d_X9_interceptor_61 : decode c_X9_interceptor 61 = .ok (.iload_n 2, 1) := by decide +kernel
theorem d_X9_interceptor_62 : decode c_X9_interceptor 62 = .ok (.iload_n 3, 1) := by decide +kernel
theorem d_X9_interceptor_63 : decode c_X9_interceptor 63 = .ok (.invokevirtual 108, 3) := by decide +kernel
theorem d_X9_interceptor_66 : decode c_X9_interceptor 66 = .ok (.aload_n 0, 1) := by decide +kernel
theorem d_X9_interceptor_67 : decode c_X9_interceptor 67 = .ok (.dup, 1) := by decide +kernel
theorem d_X9_interceptor_68 : decode c_X9_interceptor 68 = .ok (.getfield 64, 3) := by decide +kernel
theorem d_X9_interceptor_71 : decode c_X9_interceptor 71 = .ok (.iconst 1, 1) := by decide +kernel
theorem d_X9_interceptor_72 : decode c_X9_interceptor 72 = .ok (.iadd, 1) := by decide +kernel
theorem d_X9_interceptor_73 : decode c_X9_interceptor 73 = .ok (.putfield 64, 3) := by decide +kernel
theorem d_X9_interceptor_76 : decode c_X9_interceptor 76 = .ok (.aload_n 0, 1) := by decide +kernel
theorem d_X9_interceptor_77 : decode c_X9_interceptor 77 = .ok (.getfield 64, 3) := by decide +kernel
theorem d_X9_interceptor_80 : decode c_X9_interceptor 80 = .ok (.iconst 1, 1) := by decide +kernel
theorem d_X9_interceptor_81 : decode c_X9_interceptor 81 = .ok (.isub, 1) := by decide +kernel
theorem d_X9_interceptor_82 : decode c_X9_interceptor 82 = .ok (.ireturn, 1) := by decide +kernel
theorem d_X9_decorator_0 : decode c_X9_decorator 0 = .ok (.aload_n 0, 1) := by decide +kernel
theorem d_X9_decorator_1 : decode c_X9_decorator 1 = .ok (.getfield 74, 3) := by decide +kernel
theorem d_X9_decorator_4 : decode c_X9_decorator 4 = .ok (.ifCond .eq 6, 3) := by decide +kernel
theorem d_X9_decorator_7 : decode c_X9_decorator 7 = .ok (.bipush (-2), 2) := by decide +kernel
theorem d_X9_decorator_9 : decode c_X9_decorator 9 = .ok (.ireturn, 1) := by decide +kernel
theorem d_X9_decorator_10 : decode c_X9_decorator 10 = .ok (.iload_n 1, 1) := by decide +kernel
theorem d_X9_decorator_11 : decode c_X9_decorator 11 = .ok (.bipush 9, 2) := by decide +kernel
theorem d_X9_decorator_13 : decode c_X9_decorator 13 = .ok (.invokestatic 104, 3) := by decide +kernel
theorem d_X9_decorator_16 : decode c_X9_decorator 16 = .ok (.ifCond .eq 30, 3) := by decide +kernel
theorem d_X9_decorator_19 : decode c_X9_decorator 19 = .ok (.iload_n 2, 1) := by decide +kernel
theorem d_X9_decorator_20 : decode c_X9_decorator 20 = .ok (.bipush 7, 2) := by decide +kernel
theorem d_X9_decorator_22 : decode c_X9_decorator 22 = .ok (.invokestatic 104, 3) := by decide +kernel
theorem d_X9_decorator_25 : decode c_X9_decorator 25 = .ok (.ifCond .eq 21, 3) := by decide +kernel
theorem d_X9_decorator_28 : decode c_X9_decorator 28 = .ok (.iload_n 3, 1) := by decide +kernel
theorem d_X9_decorator_29 : decode c_X9_decorator 29 = .ok (.bipush 15, 2) := by decide +kernel
theorem d_X9_decorator_31 : decode c_X9_decorator 31 = .ok (.invokestatic 104, 3) := by decide +kernel
theorem d_X9_decorator_34 : decode c_X9_decorator 34 = .ok (.ifCond .eq 12, 3) := by decide +kernel
theorem d_X9_decorator_37 : decode c_X9_decorator 37 = .ok (.iload 4, 2) := by decide +kernel
theorem d_X9_decorator_39 : decode c_X9_decorator 39 = .ok (.iconst 5, 1) := by decide +kernel
theorem d_X9_decorator_40 : decode c_X9_decorator 40 = .ok (.invokestatic 104, 3) := by decide +kernel
theorem d_X9_decorator_43 : decode c_X9_decorator 43 = .ok (.ifCond .ne 6, 3) := by decide +kernel
theorem d_X9_decorator_46 : decode c_X9_decorator 46 = .ok (.bipush (-4), 2) := by decide +kernel
theorem d_X9_decorator_48 : decode c_X9_decorator 48 = .ok (.ireturn, 1) := by decide +kernel
theorem d_X9_decorator_49 : decode c_X9_decorator 49 = .ok (.aload_n 0, 1) := by decide +kernel
theorem d_X9_decorator_50 : decode c_X9_decorator 50 = .ok (.getfield 68, 3) := by decide +kernel
theorem d_X9_decorator_53 : decode c_X9_decorator 53 = .ok (.iconst 4, 1) := by decide +kernel
theorem d_X9_decorator_54 : decode c_X9_decorator 54 = .ok (.if_icmp .ne 6, 3) := by decide +kernel
theorem d_X9_decorator_57 : decode c_X9_decorator 57 = .ok (.bipush (-5), 2) := by decide +kernel
theorem d_X9_decorator_59 : decode c_X9_decorator 59 = .ok (.ireturn, 1) := by decide +kernel
theorem d_X9_decorator_60 : decode c_X9_decorator 60 = .ok (.aload_n 0, 1) := by decide +kernel
theorem d_X9_decorator_61 : decode c_X9_decorator 61 = .ok (.getfield 25, 3) := by decide +kernel
theorem d_X9_decorator_64 : decode c_X9_decorator 64 = .ok (.aload_n 0, 1) := by decide +kernel
theorem d_X9_decorator_65 : decode c_X9_decorator 65 = .ok (.getfield 68, 3) := by decide +kernel
theorem d_X9_decorator_68 : decode c_X9_decorator 68 = .ok (.aaload, 1) := by decide +kernel
theorem d_X9_decorator_69 : decode c_X9_decorator 69 = .ok (.iload_n 1, 1) := by decide +kernel
theorem d_X9_decorator_70 : decode c_X9_decorator 70 = .ok (.iload_n 2, 1) := by decide +kernel
theorem d_X9_decorator_71 : decode c_X9_decorator 71 = .ok (.iload_n 3, 1) := by decide +kernel
theorem d_X9_decorator_72 : decode c_X9_decorator 72 = .ok (.iload 4, 2) := by decide +kernel
theorem d_X9_decorator_74 : decode c_X9_decorator 74 = .ok (.invokevirtual 110, 3) := by decide +kernel
theorem d_X9_decorator_77 : decode c_X9_decorator 77 = .ok (.aload_n 0, 1) := by decide +kernel
theorem d_X9_decorator_78 : decode c_X9_decorator 78 = .ok (.dup, 1) := by decide +kernel
theorem d_X9_decorator_79 : decode c_X9_decorator 79 = .ok (.getfield 68, 3) := by decide +kernel
theorem d_X9_decorator_82 : decode c_X9_decorator 82 = .ok (.iconst 1, 1) := by decide +kernel
theorem d_X9_decorator_83 : decode c_X9_decorator 83 = .ok (.iadd, 1) := by decide +kernel
theorem d_X9_decorator_84 : decode c_X9_decorator 84 = .ok (.putfield 68, 3) := by decide +kernel
theorem d_X9_decorator_87 : decode c_X9_decorator 87 = .ok (.aload_n 0, 1) := by decide +kernel
theorem d_X9_decorator_88 : decode c_X9_decorator 88 = .ok (.getfield 68, 3) := by decide +kernel
theorem d_X9_decorator_91 : decode c_X9_decorator 91 = .ok (.iconst 1, 1) := by decide +kernel
theorem d_X9_decorator_92 : decode c_X9_decorator 92 = .ok (.isub, 1) := by decide +kernel
theorem d_X9_decorator_93 : decode c_X9_decorator 93 = .ok (.ireturn, 1) := by decide +kernel
theorem d_X9_component_0 : decode c_X9_component 0 = .ok (.aload_n 0, 1) := by decide +kernel
theorem d_X9_component_1 : decode c_X9_component 1 = .ok (.getfield 74, 3) := by decide +kernel
theorem d_X9_component_4 : decode c_X9_component 4 = .ok (.ifCond .eq 6, 3) := by decide +kernel
theorem d_X9_component_7 : decode c_X9_component 7 = .ok (.bipush (-2), 2) := by decide +kernel
theorem d_X9_component_9 : decode c_X9_component 9 = .ok (.ireturn, 1) := by decide +kernel
theorem d_X9_component_10 : decode c_X9_component 10 = .ok (.iload_n 1, 1) := by decide +kernel
theorem d_X9_component_11 : decode c_X9_component 11 = .ok (.sipush 255, 3) := by decide +kernel
theorem d_X9_component_14 : decode c_X9_component 14 = .ok (.invokestatic 104, 3) := by decide +kernel
theorem d_X9_component_17 : decode c_X9_component 17 = .ok (.ifCond .ne 6, 3) := by decide +kernel
theorem d_X9_component_20 : decode c_X9_component 20 = .ok (.bipush (-4), 2) := by decide +kernel
theorem d_X9_component_22 : decode c_X9_component 22 = .ok (.ireturn, 1) := by decide +kernel
theorem d_X9_component_23 : decode c_X9_component 23 = .ok (.aload_n 0, 1) := by decide +kernel
theorem d_X9_component_24 : decode c_X9_component 24 = .ok (.getfield 71, 3) := by decide +kernel
theorem d_X9_component_27 : decode c_X9_component 27 = .ok (.iconst 4, 1) := by decide +kernel
theorem d_X9_component_28 : decode c_X9_component 28 = .ok (.if_icmp .ne 6, 3) := by decide +kernel
theorem d_X9_component_31 : decode c_X9_component 31 = .ok (.bipush (-5), 2) := by decide +kernel
theorem d_X9_component_33 : decode c_X9_component 33 = .ok (.ireturn, 1) := by decide +kernel
theorem d_X9_component_34 : decode c_X9_component 34 = .ok (.aload_n 0, 1) := by decide +kernel
theorem d_X9_component_35 : decode c_X9_component 35 = .ok (.getfield 32, 3) := by decide +kernel
theorem d_X9_component_38 : decode c_X9_component 38 = .ok (.aload_n 0, 1) := by decide +kernel
theorem d_X9_component_39 : decode c_X9_component 39 = .ok (.getfield 71, 3) := by decide +kernel
theorem d_X9_component_42 : decode c_X9_component 42 = .ok (.aaload, 1) := by decide +kernel
theorem d_X9_component_43 : decode c_X9_component 43 = .ok (.iload_n 1, 1) := by decide +kernel
theorem d_X9_component_44 : decode c_X9_component 44 = .ok (.invokevirtual 113, 3) := by decide +kernel
theorem d_X9_component_47 : decode c_X9_component 47 = .ok (.aload_n 0, 1) := by decide +kernel
theorem d_X9_component_48 : decode c_X9_component 48 = .ok (.dup, 1) := by decide +kernel
theorem d_X9_component_49 : decode c_X9_component 49 = .ok (.getfield 71, 3) := by decide +kernel
theorem d_X9_component_52 : decode c_X9_component 52 = .ok (.iconst 1, 1) := by decide +kernel
theorem d_X9_component_53 : decode c_X9_component 53 = .ok (.iadd, 1) := by decide +kernel
theorem d_X9_component_54 : decode c_X9_component 54 = .ok (.putfield 71, 3) := by decide +kernel
theorem d_X9_component_57 : decode c_X9_component 57 = .ok (.aload_n 0, 1) := by decide +kernel
theorem d_X9_component_58 : decode c_X9_component 58 = .ok (.getfield 71, 3) := by decide +kernel
theorem d_X9_component_61 : decode c_X9_component 61 = .ok (.iconst 1, 1) := by decide +kernel
theorem d_X9_component_62 : decode c_X9_component 62 = .ok (.isub, 1) := by decide +kernel
theorem d_X9_component_63 : decode c_X9_component 63 = .ok (.ireturn, 1) := by decide +kernel
theorem d_X9_bindInterceptor_0 : decode c_X9_bindInterceptor 0 = .ok (.aload_n 0, 1) := by decide +kernel
theorem d_X9_bindInterceptor_1 : decode c_X9_bindInterceptor 1 = .ok (.getfield 74, 3) := by decide +kernel
theorem d_X9_bindInterceptor_4 : decode c_X9_bindInterceptor 4 = .ok (.ifCond .eq 6, 3) := by decide +kernel
theorem d_X9_bindInterceptor_7 : decode c_X9_bindInterceptor 7 = .ok (.bipush (-2), 2) := by decide +kernel
theorem d_X9_bindInterceptor_9 : decode c_X9_bindInterceptor 9 = .ok (.ireturn, 1) := by decide +kernel
theorem d_X9_bindInterceptor_10 : decode c_X9_bindInterceptor 10 = .ok (.aload_n 0, 1) := by decide +kernel
theorem d_X9_bindInterceptor_11 : decode c_X9_bindInterceptor 11 = .ok (.iload_n 1, 1) := by decide +kernel
theorem d_X9_bindInterceptor_12 : decode c_X9_bindInterceptor 12 = .ok (.invokevirtual 116, 3) := by decide +kernel
theorem d_X9_bindInterceptor_15 : decode c_X9_bindInterceptor 15 = .ok (.ifCond .eq 14, 3) := by decide +kernel
theorem d_X9_bindInterceptor_18 : decode c_X9_bindInterceptor 18 = .ok (.aload_n 0, 1) := by decide +kernel
theorem d_X9_bindInterceptor_19 : decode c_X9_bindInterceptor 19 = .ok (.getfield 10, 3) := by decide +kernel
theorem d_X9_bindInterceptor_22 : decode c_X9_bindInterceptor 22 = .ok (.iload_n 2, 1) := by decide +kernel
theorem d_X9_bindInterceptor_23 : decode c_X9_bindInterceptor 23 = .ok (.invokevirtual 86, 3) := by decide +kernel
theorem d_X9_bindInterceptor_26 : decode c_X9_bindInterceptor 26 = .ok (.ifCond .ne 6, 3) := by decide +kernel
theorem d_X9_bindInterceptor_29 : decode c_X9_bindInterceptor 29 = .ok (.bipush (-3), 2) := by decide +kernel
theorem d_X9_bindInterceptor_31 : decode c_X9_bindInterceptor 31 = .ok (.ireturn, 1) := by decide +kernel
theorem d_X9_bindInterceptor_32 : decode c_X9_bindInterceptor 32 = .ok (.aload_n 0, 1) := by decide +kernel
theorem d_X9_bindInterceptor_33 : decode c_X9_bindInterceptor 33 = .ok (.aload_n 0, 1) := by decide +kernel
theorem d_X9_bindInterceptor_34 : decode c_X9_bindInterceptor 34 = .ok (.getfield 18, 3) := by decide +kernel
theorem d_X9_bindInterceptor_37 : decode c_X9_bindInterceptor 37 = .ok (.iload_n 1, 1) := by decide +kernel
theorem d_X9_bindInterceptor_38 : decode c_X9_bindInterceptor 38 = .ok (.aaload, 1) := by decide +kernel
theorem d_X9_bindInterceptor_39 : decode c_X9_bindInterceptor 39 = .ok (.getfield 119, 3) := by decide +kernel
theorem d_X9_bindInterceptor_42 : decode c_X9_bindInterceptor 42 = .ok (.iload_n 2, 1) := by decide +kernel
theorem d_X9_bindInterceptor_43 : decode c_X9_bindInterceptor 43 = .ok (.iload_n 3, 1) := by decide +kernel
theorem d_X9_bindInterceptor_44 : decode c_X9_bindInterceptor 44 = .ok (.invokevirtual 122, 3) := by decide +kernel
theorem d_X9_bindInterceptor_47 : decode c_X9_bindInterceptor 47 = .ok (.ireturn, 1) := by decide +kernel
theorem d_X9_bind_0 : decode c_X9_bind 0 = .ok (.aload_n 0, 1) := by decide +kernel
theorem d_X9_bind_1 : decode c_X9_bind 1 = .ok (.getfield 74, 3) := by decide +kernel
theorem d_X9_bind_4 : decode c_X9_bind 4 = .ok (.ifCond .eq 6, 3) := by decide +kernel
theorem d_X9_bind_7 : decode c_X9_bind 7 = .ok (.bipush (-2), 2) := by decide +kernel
theorem d_X9_bind_9 : decode c_X9_bind 9 = .ok (.ireturn, 1) := by decide +kernel
theorem d_X9_bind_10 : decode c_X9_bind 10 = .ok (.aload_n 0, 1) := by decide +kernel
theorem d_X9_bind_11 : decode c_X9_bind 11 = .ok (.iload_n 1, 1) := by decide +kernel
theorem d_X9_bind_12 : decode c_X9_bind 12 = .ok (.iload_n 2, 1) := by decide +kernel
theorem d_X9_bind_13 : decode c_X9_bind 13 = .ok (.invokevirtual 126, 3) := by decide +kernel
theorem d_X9_bind_16 : decode c_X9_bind 16 = .ok (.ifCond .eq 14, 3) := by decide +kernel
theorem d_X9_bind_19 : decode c_X9_bind 19 = .ok (.aload_n 0, 1) := by decide +kernel
theorem d_X9_bind_20 : decode c_X9_bind 20 = .ok (.getfield 10, 3) := by decide +kernel
theorem d_X9_bind_23 : decode c_X9_bind 23 = .ok (.iload_n 3, 1) := by decide +kernel
theorem d_X9_bind_24 : decode c_X9_bind 24 = .ok (.invokevirtual 86, 3) := by decide +kernel
theorem d_X9_bind_27 : decode c_X9_bind 27 = .ok (.ifCond .ne 6, 3) := by decide +kernel
theorem d_X9_bind_30 : decode c_X9_bind 30 = .ok (.bipush (-3), 2) := by decide +kernel
theorem d_X9_bind_32 : decode c_X9_bind 32 = .ok (.ireturn, 1) := by decide +kernel
theorem d_X9_bind_33 : decode c_X9_bind 33 = .ok (.aload_n 0, 1) := by decide +kernel
theorem d_X9_bind_34 : decode c_X9_bind 34 = .ok (.aload_n 0, 1) := by decide +kernel
theorem d_X9_bind_35 : decode c_X9_bind 35 = .ok (.getfield 32, 3) := by decide +kernel
theorem d_X9_bind_38 : decode c_X9_bind 38 = .ok (.iload_n 1, 1) := by decide +kernel
theorem d_X9_bind_39 : decode c_X9_bind 39 = .ok (.aaload, 1) := by decide +kernel
theorem d_X9_bind_40 : decode c_X9_bind 40 = .ok (.iload_n 2, 1) := by decide +kernel
theorem d_X9_bind_41 : decode c_X9_bind 41 = .ok (.invokevirtual 129, 3) := by decide +kernel
theorem d_X9_bind_44 : decode c_X9_bind 44 = .ok (.getfield 133, 3) := by decide +kernel
theorem d_X9_bind_47 : decode c_X9_bind 47 = .ok (.iload_n 3, 1) := by decide +kernel
theorem d_X9_bind_48 : decode c_X9_bind 48 = .ok (.iload 4, 2) := by decide +kernel
theorem d_X9_bind_50 : decode c_X9_bind 50 = .ok (.invokevirtual 122, 3) := by decide +kernel
theorem d_X9_bind_53 : decode c_X9_bind 53 = .ok (.ireturn, 1) := by decide +kernel
theorem d_X9_list_0 : decode c_X9_list 0 = .ok (.aload_n 0, 1) := by decide +kernel
theorem d_X9_list_1 : decode c_X9_list 1 = .ok (.getfield 74, 3) := by decide +kernel
theorem d_X9_list_4 : decode c_X9_list 4 = .ok (.ifCond .eq 6, 3) := by decide +kernel
theorem d_X9_list_7 : decode c_X9_list 7 = .ok (.bipush (-2), 2) := by decide +kernel
theorem d_X9_list_9 : decode c_X9_list 9 = .ok (.ireturn, 1) := by decide +kernel
theorem d_X9_list_10 : decode c_X9_list 10 = .ok (.aload_n 0, 1) := by decide +kernel
theorem d_X9_list_11 : decode c_X9_list 11 = .ok (.iload_n 1, 1) := by decide +kernel
theorem d_X9_list_12 : decode c_X9_list 12 = .ok (.iload_n 2, 1) := by decide +kernel
theorem d_X9_list_13 : decode c_X9_list 13 = .ok (.invokevirtual 126, 3) := by decide +kernel
theorem d_X9_list_16 : decode c_X9_list 16 = .ok (.ifCond .eq 11, 3) := by decide +kernel
theorem d_X9_list_19 : decode c_X9_list 19 = .ok (.aload_n 0, 1) := by decide +kernel
theorem d_X9_list_20 : decode c_X9_list 20 = .ok (.iload_n 3, 1) := by decide +kernel
theorem d_X9_list_21 : decode c_X9_list 21 = .ok (.invokevirtual 116, 3) := by decide +kernel
theorem d_X9_list_24 : decode c_X9_list 24 = .ok (.ifCond .ne 6, 3) := by decide +kernel
theorem d_X9_list_27 : decode c_X9_list 27 = .ok (.bipush (-3), 2) := by decide +kernel
theorem d_X9_list_29 : decode c_X9_list 29 = .ok (.ireturn, 1) := by decide +kernel
theorem d_X9_list_30 : decode c_X9_list 30 = .ok (.aload_n 0, 1) := by decide +kernel
theorem d_X9_list_31 : decode c_X9_list 31 = .ok (.getfield 32, 3) := by decide +kernel
theorem d_X9_list_34 : decode c_X9_list 34 = .ok (.iload_n 1, 1) := by decide +kernel
theorem d_X9_list_35 : decode c_X9_list 35 = .ok (.aaload, 1) := by decide +kernel
theorem d_X9_list_36 : decode c_X9_list 36 = .ok (.iload_n 2, 1) := by decide +kernel
theorem d_X9_list_37 : decode c_X9_list 37 = .ok (.invokevirtual 129, 3) := by decide +kernel
theorem d_X9_list_40 : decode c_X9_list 40 = .ok (.astore 4, 2) := by decide +kernel
theorem d_X9_list_42 : decode c_X9_list 42 = .ok (.aload 4, 2) := by decide +kernel
theorem d_X9_list_44 : decode c_X9_list 44 = .ok (.getfield 136, 3) := by decide +kernel
theorem d_X9_list_47 : decode c_X9_list 47 = .ok (.iconst 4, 1) := by decide +kernel
theorem d_X9_list_48 : decode c_X9_list 48 = .ok (.if_icmp .ne 6, 3) := by decide +kernel
theorem d_X9_list_51 : decode c_X9_list 51 = .ok (.bipush (-5), 2) := by decide +kernel
theorem d_X9_list_53 : decode c_X9_list 53 = .ok (.ireturn, 1) := by decide +kernel
theorem d_X9_list_54 : decode c_X9_list 54 = .ok (.aload 4, 2) := by decide +kernel
theorem d_X9_list_56 : decode c_X9_list 56 = .ok (.iload_n 3, 1) := by decide +kernel
theorem d_X9_list_57 : decode c_X9_list 57 = .ok (.invokevirtual 139, 3) := by decide +kernel
theorem d_X9_list_60 : decode c_X9_list 60 = .ok (.iconst 0, 1) := by decide +kernel
theorem d_X9_list_61 : decode c_X9_list 61 = .ok (.ireturn, 1) := by decide +kernel
theorem d_X9_flags_0 : decode c_X9_flags 0 = .ok (.aload_n 0, 1) := by decide +kernel
theorem d_X9_flags_1 : decode c_X9_flags 1 = .ok (.getfield 74, 3) := by decide +kernel
theorem d_X9_flags_4 : decode c_X9_flags 4 = .ok (.ifCond .eq 6, 3) := by decide +kernel
theorem d_X9_flags_7 : decode c_X9_flags 7 = .ok (.bipush (-2), 2) := by decide +kernel
theorem d_X9_flags_9 : decode c_X9_flags 9 = .ok (.ireturn, 1) := by decide +kernel
theorem d_X9_flags_10 : decode c_X9_flags 10 = .ok (.aload_n 0, 1) := by decide +kernel
theorem d_X9_flags_11 : decode c_X9_flags 11 = .ok (.iload_n 1, 1) := by decide +kernel
theorem d_X9_flags_12 : decode c_X9_flags 12 = .ok (.iload_n 2, 1) := by decide +kernel
theorem d_X9_flags_13 : decode c_X9_flags 13 = .ok (.invokevirtual 126, 3) := by decide +kernel
theorem d_X9_flags_16 : decode c_X9_flags 16 = .ok (.ifCond .eq 8, 3) := by decide +kernel
theorem d_X9_flags_19 : decode c_X9_flags 19 = .ok (.iload_n 2, 1) := by decide +kernel
theorem d_X9_flags_20 : decode c_X9_flags 20 = .ok (.iconst (-1), 1) := by decide +kernel
theorem d_X9_flags_21 : decode c_X9_flags 21 = .ok (.if_icmp .ne 6, 3) := by decide +kernel
theorem d_X9_flags_24 : decode c_X9_flags 24 = .ok (.bipush (-3), 2) := by decide +kernel
theorem d_X9_flags_26 : decode c_X9_flags 26 = .ok (.ireturn, 1) := by decide +kernel
theorem d_X9_flags_27 : decode c_X9_flags 27 = .ok (.iload_n 3, 1) := by decide +kernel
theorem d_X9_flags_28 : decode c_X9_flags 28 = .ok (.bipush 7, 2) := by decide +kernel
theorem d_X9_flags_30 : decode c_X9_flags 30 = .ok (.invokestatic 104, 3) := by decide +kernel
theorem d_X9_flags_33 : decode c_X9_flags 33 = .ok (.ifCond .ne 6, 3) := by decide +kernel
theorem d_X9_flags_36 : decode c_X9_flags 36 = .ok (.bipush (-4), 2) := by decide +kernel
theorem d_X9_flags_38 : decode c_X9_flags 38 = .ok (.ireturn, 1) := by decide +kernel
theorem d_X9_flags_39 : decode c_X9_flags 39 = .ok (.aload_n 0, 1) := by decide +kernel
theorem d_X9_flags_40 : decode c_X9_flags 40 = .ok (.getfield 32, 3) := by decide +kernel
theorem d_X9_flags_43 : decode c_X9_flags 43 = .ok (.iload_n 1, 1) := by decide +kernel
theorem d_X9_flags_44 : decode c_X9_flags 44 = .ok (.aaload, 1) := by decide +kernel
theorem d_X9_flags_45 : decode c_X9_flags 45 = .ok (.iload_n 2, 1) := by decide +kernel
theorem d_X9_flags_46 : decode c_X9_flags 46 = .ok (.invokevirtual 129, 3) := by decide +kernel
theorem d_X9_flags_49 : decode c_X9_flags 49 = .ok (.iload_n 3, 1) := by decide +kernel
theorem d_X9_flags_50 : decode c_X9_flags 50 = .ok (.putfield 142, 3) := by decide +kernel
theorem d_X9_flags_53 : decode c_X9_flags 53 = .ok (.iconst 0, 1) := by decide +kernel
theorem d_X9_flags_54 : decode c_X9_flags 54 = .ok (.ireturn, 1) := by decide +kernel
theorem d_X9_deploy_0 : decode c_X9_deploy 0 = .ok (.aload_n 0, 1) := by decide +kernel
theorem d_X9_deploy_1 : decode c_X9_deploy 1 = .ok (.getfield 74, 3) := by decide +kernel
theorem d_X9_deploy_4 : decode c_X9_deploy 4 = .ok (.ifCond .eq 6, 3) := by decide +kernel
theorem d_X9_deploy_7 : decode c_X9_deploy 7 = .ok (.bipush (-2), 2) := by decide +kernel
theorem d_X9_deploy_9 : decode c_X9_deploy 9 = .ok (.ireturn, 1) := by decide +kernel
theorem d_X9_deploy_10 : decode c_X9_deploy 10 = .ok (.aload_n 0, 1) := by decide +kernel
theorem d_X9_deploy_11 : decode c_X9_deploy 11 = .ok (.invokevirtual 145, 3) := by decide +kernel
theorem d_X9_deploy_14 : decode c_X9_deploy 14 = .ok (.istore_n 1, 1) := by decide +kernel
theorem d_X9_deploy_15 : decode c_X9_deploy 15 = .ok (.iload_n 1, 1) := by decide +kernel
theorem d_X9_deploy_16 : decode c_X9_deploy 16 = .ok (.ifCond .ne 8, 3) := by decide +kernel
theorem d_X9_deploy_19 : decode c_X9_deploy 19 = .ok (.aload_n 0, 1) := by decide +kernel
theorem d_X9_deploy_20 : decode c_X9_deploy 20 = .ok (.invokevirtual 149, 3) := by decide +kernel
theorem d_X9_deploy_23 : decode c_X9_deploy 23 = .ok (.istore_n 1, 1) := by decide +kernel
theorem d_X9_deploy_24 : decode c_X9_deploy 24 = .ok (.iload_n 1, 1) := by decide +kernel
theorem d_X9_deploy_25 : decode c_X9_deploy 25 = .ok (.ifCond .ne 8, 3) := by decide +kernel
theorem d_X9_deploy_28 : decode c_X9_deploy 28 = .ok (.aload_n 0, 1) := by decide +kernel
theorem d_X9_deploy_29 : decode c_X9_deploy 29 = .ok (.invokevirtual 152, 3) := by decide +kernel
theorem d_X9_deploy_32 : decode c_X9_deploy 32 = .ok (.istore_n 1, 1) := by decide +kernel
theorem d_X9_deploy_33 : decode c_X9_deploy 33 = .ok (.aload_n 0, 1) := by decide +kernel
theorem d_X9_deploy_34 : decode c_X9_deploy 34 = .ok (.iload_n 1, 1) := by decide +kernel
theorem d_X9_deploy_35 : decode c_X9_deploy 35 = .ok (.ifCond .ne 7, 3) := by decide +kernel
theorem d_X9_deploy_38 : decode c_X9_deploy 38 = .ok (.iconst 1, 1) := by decide +kernel
theorem d_X9_deploy_39 : decode c_X9_deploy 39 = .ok (.goto 4, 3) := by decide +kernel
theorem d_X9_deploy_42 : decode c_X9_deploy 42 = .ok (.iconst 0, 1) := by decide +kernel
theorem d_X9_deploy_43 : decode c_X9_deploy 43 = .ok (.putfield 74, 3) := by decide +kernel
theorem d_X9_deploy_46 : decode c_X9_deploy 46 = .ok (.iload_n 1, 1) := by decide +kernel
theorem d_X9_deploy_47 : decode c_X9_deploy 47 = .ok (.ireturn, 1) := by decide +kernel
theorem d_X9_length_0 : decode c_X9_length 0 = .ok (.aload_n 0, 1) := by decide +kernel
theorem d_X9_length_1 : decode c_X9_length 1 = .ok (.getfield 74, 3) := by decide +kernel
theorem d_X9_length_4 : decode c_X9_length 4 = .ok (.ifCond .ne 6, 3) := by decide +kernel
theorem d_X9_length_7 : decode c_X9_length 7 = .ok (.bipush (-6), 2) := by decide +kernel
theorem d_X9_length_9 : decode c_X9_length 9 = .ok (.ireturn, 1) := by decide +kernel
theorem d_X9_length_10 : decode c_X9_length 10 = .ok (.aload_n 0, 1) := by decide +kernel
theorem d_X9_length_11 : decode c_X9_length 11 = .ok (.iload_n 1, 1) := by decide +kernel
theorem d_X9_length_12 : decode c_X9_length 12 = .ok (.iload_n 2, 1) := by decide +kernel
theorem d_X9_length_13 : decode c_X9_length 13 = .ok (.invokevirtual 155, 3) := by decide +kernel
theorem d_X9_length_16 : decode c_X9_length 16 = .ok (.ifCond .ne 6, 3) := by decide +kernel
theorem d_X9_length_19 : decode c_X9_length 19 = .ok (.bipush (-3), 2) := by decide +kernel
theorem d_X9_length_21 : decode c_X9_length 21 = .ok (.ireturn, 1) := by decide +kernel
theorem d_X9_length_22 : decode c_X9_length 22 = .ok (.aload_n 0, 1) := by decide +kernel
theorem d_X9_length_23 : decode c_X9_length 23 = .ok (.aload_n 0, 1) := by decide +kernel
theorem d_X9_length_24 : decode c_X9_length 24 = .ok (.getfield 32, 3) := by decide +kernel
theorem d_X9_length_27 : decode c_X9_length 27 = .ok (.iload_n 1, 1) := by decide +kernel
theorem d_X9_length_28 : decode c_X9_length 28 = .ok (.aaload, 1) := by decide +kernel
theorem d_X9_length_29 : decode c_X9_length 29 = .ok (.iload_n 2, 1) := by decide +kernel
theorem d_X9_length_30 : decode c_X9_length 30 = .ok (.invokevirtual 158, 3) := by decide +kernel
theorem d_X9_length_33 : decode c_X9_length 33 = .ok (.aload_n 0, 1) := by decide +kernel
theorem d_X9_length_34 : decode c_X9_length 34 = .ok (.getfield 50, 3) := by decide +kernel
theorem d_X9_length_37 : decode c_X9_length 37 = .ok (.getfield 162, 3) := by decide +kernel
theorem d_X9_length_40 : decode c_X9_length 40 = .ok (.ireturn, 1) := by decide +kernel
theorem d_X9_element_0 : decode c_X9_element 0 = .ok (.aload_n 0, 1) := by decide +kernel
theorem d_X9_element_1 : decode c_X9_element 1 = .ok (.getfield 74, 3) := by decide +kernel
theorem d_X9_element_4 : decode c_X9_element 4 = .ok (.ifCond .ne 6, 3) := by decide +kernel
theorem d_X9_element_7 : decode c_X9_element 7 = .ok (.bipush (-6), 2) := by decide +kernel
theorem d_X9_element_9 : decode c_X9_element 9 = .ok (.ireturn, 1) := by decide +kernel
theorem d_X9_element_10 : decode c_X9_element 10 = .ok (.aload_n 0, 1) := by decide +kernel
theorem d_X9_element_11 : decode c_X9_element 11 = .ok (.iload_n 1, 1) := by decide +kernel
theorem d_X9_element_12 : decode c_X9_element 12 = .ok (.iload_n 2, 1) := by decide +kernel
theorem d_X9_element_13 : decode c_X9_element 13 = .ok (.invokevirtual 155, 3) := by decide +kernel
theorem d_X9_element_16 : decode c_X9_element 16 = .ok (.ifCond .ne 6, 3) := by decide +kernel
theorem d_X9_element_19 : decode c_X9_element 19 = .ok (.bipush (-3), 2) := by decide +kernel
theorem d_X9_element_21 : decode c_X9_element 21 = .ok (.ireturn, 1) := by decide +kernel
theorem d_X9_element_22 : decode c_X9_element 22 = .ok (.aload_n 0, 1) := by decide +kernel
theorem d_X9_element_23 : decode c_X9_element 23 = .ok (.aload_n 0, 1) := by decide +kernel
theorem d_X9_element_24 : decode c_X9_element 24 = .ok (.getfield 32, 3) := by decide +kernel
theorem d_X9_element_27 : decode c_X9_element 27 = .ok (.iload_n 1, 1) := by decide +kernel
theorem d_X9_element_28 : decode c_X9_element 28 = .ok (.aaload, 1) := by decide +kernel
theorem d_X9_element_29 : decode c_X9_element 29 = .ok (.iload_n 2, 1) := by decide +kernel
theorem d_X9_element_30 : decode c_X9_element 30 = .ok (.invokevirtual 158, 3) := by decide +kernel
theorem d_X9_element_33 : decode c_X9_element 33 = .ok (.iload_n 3, 1) := by decide +kernel
theorem d_X9_element_34 : decode c_X9_element 34 = .ok (.ifCond .lt 14, 3) := by decide +kernel
theorem d_X9_element_37 : decode c_X9_element 37 = .ok (.iload_n 3, 1) := by decide +kernel
theorem d_X9_element_38 : decode c_X9_element 38 = .ok (.aload_n 0, 1) := by decide +kernel
theorem d_X9_element_39 : decode c_X9_element 39 = .ok (.getfield 50, 3) := by decide +kernel
theorem d_X9_element_42 : decode c_X9_element 42 = .ok (.getfield 162, 3) := by decide +kernel
theorem d_X9_element_45 : decode c_X9_element 45 = .ok (.if_icmp .lt 6, 3) := by decide +kernel
theorem d_X9_element_48 : decode c_X9_element 48 = .ok (.bipush (-3), 2) := by decide +kernel
theorem d_X9_element_50 : decode c_X9_element 50 = .ok (.ireturn, 1) := by decide +kernel
theorem d_X9_element_51 : decode c_X9_element 51 = .ok (.aload_n 0, 1) := by decide +kernel
theorem d_X9_element_52 : decode c_X9_element 52 = .ok (.getfield 50, 3) := by decide +kernel
theorem d_X9_element_55 : decode c_X9_element 55 = .ok (.getfield 163, 3) := by decide +kernel
theorem d_X9_element_58 : decode c_X9_element 58 = .ok (.iload_n 3, 1) := by decide +kernel
theorem d_X9_element_59 : decode c_X9_element 59 = .ok (.iaload, 1) := by decide +kernel
theorem d_X9_element_60 : decode c_X9_element 60 = .ok (.ireturn, 1) := by decide +kernel
theorem d_X9_invoke_0 : decode c_X9_invoke 0 = .ok (.aload_n 0, 1) := by decide +kernel
theorem d_X9_invoke_1 : decode c_X9_invoke 1 = .ok (.getfield 74, 3) := by decide +kernel
theorem d_X9_invoke_4 : decode c_X9_invoke 4 = .ok (.ifCond .ne 6, 3) := by decide +kernel
theorem d_X9_invoke_7 : decode c_X9_invoke 7 = .ok (.bipush (-6), 2) := by decide +kernel
theorem d_X9_invoke_9 : decode c_X9_invoke 9 = .ok (.ireturn, 1) := by decide +kernel
theorem d_X9_invoke_10 : decode c_X9_invoke 10 = .ok (.aload_n 0, 1) := by decide +kernel
theorem d_X9_invoke_11 : decode c_X9_invoke 11 = .ok (.iload_n 1, 1) := by decide +kernel
theorem d_X9_invoke_12 : decode c_X9_invoke 12 = .ok (.iload_n 2, 1) := by decide +kernel
theorem d_X9_invoke_13 : decode c_X9_invoke 13 = .ok (.invokevirtual 155, 3) := by decide +kernel
theorem d_X9_invoke_16 : decode c_X9_invoke 16 = .ok (.ifCond .ne 6, 3) := by decide +kernel
theorem d_X9_invoke_19 : decode c_X9_invoke 19 = .ok (.bipush (-3), 2) := by decide +kernel
theorem d_X9_invoke_21 : decode c_X9_invoke 21 = .ok (.ireturn, 1) := by decide +kernel
theorem d_X9_invoke_22 : decode c_X9_invoke 22 = .ok (.aload_n 0, 1) := by decide +kernel
theorem d_X9_invoke_23 : decode c_X9_invoke 23 = .ok (.aload_n 0, 1) := by decide +kernel
theorem d_X9_invoke_24 : decode c_X9_invoke 24 = .ok (.getfield 32, 3) := by decide +kernel
theorem d_X9_invoke_27 : decode c_X9_invoke 27 = .ok (.iload_n 1, 1) := by decide +kernel
theorem d_X9_invoke_28 : decode c_X9_invoke 28 = .ok (.aaload, 1) := by decide +kernel
theorem d_X9_invoke_29 : decode c_X9_invoke 29 = .ok (.iload_n 2, 1) := by decide +kernel
theorem d_X9_invoke_30 : decode c_X9_invoke 30 = .ok (.invokevirtual 158, 3) := by decide +kernel
theorem d_X9_invoke_33 : decode c_X9_invoke 33 = .ok (.iload_n 2, 1) := by decide +kernel
theorem d_X9_invoke_34 : decode c_X9_invoke 34 = .ok (.iconst 4, 1) := by decide +kernel
theorem d_X9_invoke_35 : decode c_X9_invoke 35 = .ok (.if_icmp .lt 20, 3) := by decide +kernel
theorem d_X9_invoke_38 : decode c_X9_invoke 38 = .ok (.aload_n 0, 1) := by decide +kernel
theorem d_X9_invoke_39 : decode c_X9_invoke 39 = .ok (.getfield 57, 3) := by decide +kernel
theorem d_X9_invoke_42 : decode c_X9_invoke 42 = .ok (.aload_n 0, 1) := by decide +kernel
theorem d_X9_invoke_43 : decode c_X9_invoke 43 = .ok (.getfield 50, 3) := by decide +kernel
theorem d_X9_invoke_46 : decode c_X9_invoke 46 = .ok (.iload_n 2, 1) := by decide +kernel
theorem d_X9_invoke_47 : decode c_X9_invoke 47 = .ok (.iconst 0, 1) := by decide +kernel
theorem d_X9_invoke_48 : decode c_X9_invoke 48 = .ok (.iconst 0, 1) := by decide +kernel
theorem d_X9_invoke_49 : decode c_X9_invoke 49 = .ok (.invokevirtual 167, 3) := by decide +kernel
theorem d_X9_invoke_52 : decode c_X9_invoke 52 = .ok (.goto 30, 3) := by decide +kernel
theorem d_X9_invoke_55 : decode c_X9_invoke 55 = .ok (.aload_n 0, 1) := by decide +kernel
theorem d_X9_invoke_56 : decode c_X9_invoke 56 = .ok (.getfield 57, 3) := by decide +kernel
theorem d_X9_invoke_59 : decode c_X9_invoke 59 = .ok (.aload_n 0, 1) := by decide +kernel
theorem d_X9_invoke_60 : decode c_X9_invoke 60 = .ok (.getfield 50, 3) := by decide +kernel
theorem d_X9_invoke_63 : decode c_X9_invoke 63 = .ok (.iload_n 2, 1) := by decide +kernel
theorem d_X9_invoke_64 : decode c_X9_invoke 64 = .ok (.iload_n 3, 1) := by decide +kernel
theorem d_X9_invoke_65 : decode c_X9_invoke 65 = .ok (.aload_n 0, 1) := by decide +kernel
theorem d_X9_invoke_66 : decode c_X9_invoke 66 = .ok (.getfield 32, 3) := by decide +kernel
theorem d_X9_invoke_69 : decode c_X9_invoke 69 = .ok (.iload_n 1, 1) := by decide +kernel
theorem d_X9_invoke_70 : decode c_X9_invoke 70 = .ok (.aaload, 1) := by decide +kernel
theorem d_X9_invoke_71 : decode c_X9_invoke 71 = .ok (.iload_n 2, 1) := by decide +kernel
theorem d_X9_invoke_72 : decode c_X9_invoke 72 = .ok (.invokevirtual 129, 3) := by decide +kernel
theorem d_X9_invoke_75 : decode c_X9_invoke 75 = .ok (.iconst 4, 1) := by decide +kernel
theorem d_X9_invoke_76 : decode c_X9_invoke 76 = .ok (.invokevirtual 171, 3) := by decide +kernel
theorem d_X9_invoke_79 : decode c_X9_invoke 79 = .ok (.invokevirtual 167, 3) := by decide +kernel
theorem d_X9_invoke_82 : decode c_X9_invoke 82 = .ok (.aload_n 0, 1) := by decide +kernel
theorem d_X9_invoke_83 : decode c_X9_invoke 83 = .ok (.getfield 57, 3) := by decide +kernel
theorem d_X9_invoke_86 : decode c_X9_invoke 86 = .ok (.getfield 172, 3) := by decide +kernel
theorem d_X9_invoke_89 : decode c_X9_invoke 89 = .ok (.ireturn, 1) := by decide +kernel
theorem d_X9_result_0 : decode c_X9_result 0 = .ok (.aload_n 0, 1) := by decide +kernel
theorem d_X9_result_1 : decode c_X9_result 1 = .ok (.getfield 57, 3) := by decide +kernel
theorem d_X9_result_4 : decode c_X9_result 4 = .ok (.getfield 175, 3) := by decide +kernel
theorem d_X9_result_7 : decode c_X9_result 7 = .ok (.ireturn, 1) := by decide +kernel
theorem d_X9_error_0 : decode c_X9_error 0 = .ok (.aload_n 0, 1) := by decide +kernel
theorem d_X9_error_1 : decode c_X9_error 1 = .ok (.getfield 57, 3) := by decide +kernel
theorem d_X9_error_4 : decode c_X9_error 4 = .ok (.getfield 178, 3) := by decide +kernel
theorem d_X9_error_7 : decode c_X9_error 7 = .ok (.ireturn, 1) := by decide +kernel
theorem d_X9_log_0 : decode c_X9_log 0 = .ok (.iload_n 1, 1) := by decide +kernel
theorem d_X9_log_1 : decode c_X9_log 1 = .ok (.ifCond .lt 14, 3) := by decide +kernel
theorem d_X9_log_4 : decode c_X9_log 4 = .ok (.iload_n 1, 1) := by decide +kernel
theorem d_X9_log_5 : decode c_X9_log 5 = .ok (.aload_n 0, 1) := by decide +kernel
theorem d_X9_log_6 : decode c_X9_log 6 = .ok (.getfield 57, 3) := by decide +kernel
theorem d_X9_log_9 : decode c_X9_log 9 = .ok (.getfield 172, 3) := by decide +kernel
theorem d_X9_log_12 : decode c_X9_log 12 = .ok (.if_icmp .lt 6, 3) := by decide +kernel
theorem d_X9_log_15 : decode c_X9_log 15 = .ok (.bipush (-3), 2) := by decide +kernel
theorem d_X9_log_17 : decode c_X9_log 17 = .ok (.ireturn, 1) := by decide +kernel
theorem d_X9_log_18 : decode c_X9_log 18 = .ok (.aload_n 0, 1) := by decide +kernel
theorem d_X9_log_19 : decode c_X9_log 19 = .ok (.getfield 57, 3) := by decide +kernel
theorem d_X9_log_22 : decode c_X9_log 22 = .ok (.getfield 181, 3) := by decide +kernel
theorem d_X9_log_25 : decode c_X9_log 25 = .ok (.iload_n 1, 1) := by decide +kernel
theorem d_X9_log_26 : decode c_X9_log 26 = .ok (.iaload, 1) := by decide +kernel
theorem d_X9_log_27 : decode c_X9_log 27 = .ok (.ireturn, 1) := by decide +kernel
theorem d_X9_isWithin_0 : decode c_X9_isWithin 0 = .ok (.iload_n 0, 1) := by decide +kernel
theorem d_X9_isWithin_1 : decode c_X9_isWithin 1 = .ok (.ifCond .lt 12, 3) := by decide +kernel
theorem d_X9_isWithin_4 : decode c_X9_isWithin 4 = .ok (.iload_n 0, 1) := by decide +kernel
theorem d_X9_isWithin_5 : decode c_X9_isWithin 5 = .ok (.iload_n 1, 1) := by decide +kernel
theorem d_X9_isWithin_6 : decode c_X9_isWithin 6 = .ok (.if_icmp .gt 7, 3) := by decide +kernel
theorem d_X9_isWithin_9 : decode c_X9_isWithin 9 = .ok (.iconst 1, 1) := by decide +kernel
theorem d_X9_isWithin_10 : decode c_X9_isWithin 10 = .ok (.goto 4, 3) := by decide +kernel
theorem d_X9_isWithin_13 : decode c_X9_isWithin 13 = .ok (.iconst 0, 1) := by decide +kernel
theorem d_X9_isWithin_14 : decode c_X9_isWithin 14 = .ok (.ireturn, 1) := by decide +kernel
theorem d_X9_isInterceptor_0 : decode c_X9_isInterceptor 0 = .ok (.iload_n 1, 1) := by decide +kernel
theorem d_X9_isInterceptor_1 : decode c_X9_isInterceptor 1 = .ok (.ifCond .lt 15, 3) := by decide +kernel
theorem d_X9_isInterceptor_4 : decode c_X9_isInterceptor 4 = .ok (.iload_n 1, 1) := by decide +kernel
theorem d_X9_isInterceptor_5 : decode c_X9_isInterceptor 5 = .ok (.aload_n 0, 1) := by decide +kernel
theorem d_X9_isInterceptor_6 : decode c_X9_isInterceptor 6 = .ok (.getfield 64, 3) := by decide +kernel
theorem d_X9_isInterceptor_9 : decode c_X9_isInterceptor 9 = .ok (.if_icmp .ge 7, 3) := by decide +kernel
theorem d_X9_isInterceptor_12 : decode c_X9_isInterceptor 12 = .ok (.iconst 1, 1) := by decide +kernel
theorem d_X9_isInterceptor_13 : decode c_X9_isInterceptor 13 = .ok (.goto 4, 3) := by decide +kernel
theorem d_X9_isInterceptor_16 : decode c_X9_isInterceptor 16 = .ok (.iconst 0, 1) := by decide +kernel
theorem d_X9_isInterceptor_17 : decode c_X9_isInterceptor 17 = .ok (.ireturn, 1) := by decide +kernel
theorem d_X9_isComponent_0 : decode c_X9_isComponent 0 = .ok (.iload_n 1, 1) := by decide +kernel
theorem d_X9_isComponent_1 : decode c_X9_isComponent 1 = .ok (.ifCond .lt 15, 3) := by decide +kernel
theorem d_X9_isComponent_4 : decode c_X9_isComponent 4 = .ok (.iload_n 1, 1) := by decide +kernel
theorem d_X9_isComponent_5 : decode c_X9_isComponent 5 = .ok (.aload_n 0, 1) := by decide +kernel
theorem d_X9_isComponent_6 : decode c_X9_isComponent 6 = .ok (.getfield 71, 3) := by decide +kernel
theorem d_X9_isComponent_9 : decode c_X9_isComponent 9 = .ok (.if_icmp .ge 7, 3) := by decide +kernel
theorem d_X9_isComponent_12 : decode c_X9_isComponent 12 = .ok (.iconst 1, 1) := by decide +kernel
theorem d_X9_isComponent_13 : decode c_X9_isComponent 13 = .ok (.goto 4, 3) := by decide +kernel
theorem d_X9_isComponent_16 : decode c_X9_isComponent 16 = .ok (.iconst 0, 1) := by decide +kernel
theorem d_X9_isComponent_17 : decode c_X9_isComponent 17 = .ok (.ireturn, 1) := by decide +kernel
theorem d_X9_isPlace_0 : decode c_X9_isPlace 0 = .ok (.aload_n 0, 1) := by decide +kernel
theorem d_X9_isPlace_1 : decode c_X9_isPlace 1 = .ok (.iload_n 1, 1) := by decide +kernel
theorem d_X9_isPlace_2 : decode c_X9_isPlace 2 = .ok (.invokevirtual 184, 3) := by decide +kernel
theorem d_X9_isPlace_5 : decode c_X9_isPlace 5 = .ok (.ifCond .eq 17, 3) := by decide +kernel
theorem d_X9_isPlace_8 : decode c_X9_isPlace 8 = .ok (.iload_n 2, 1) := by decide +kernel
theorem d_X9_isPlace_9 : decode c_X9_isPlace 9 = .ok (.iconst (-1), 1) := by decide +kernel
theorem d_X9_isPlace_10 : decode c_X9_isPlace 10 = .ok (.if_icmp .lt 12, 3) := by decide +kernel
theorem d_X9_isPlace_13 : decode c_X9_isPlace 13 = .ok (.iload_n 2, 1) := by decide +kernel
theorem d_X9_isPlace_14 : decode c_X9_isPlace 14 = .ok (.iconst 4, 1) := by decide +kernel
theorem d_X9_isPlace_15 : decode c_X9_isPlace 15 = .ok (.if_icmp .ge 7, 3) := by decide +kernel
theorem d_X9_isPlace_18 : decode c_X9_isPlace 18 = .ok (.iconst 1, 1) := by decide +kernel
theorem d_X9_isPlace_19 : decode c_X9_isPlace 19 = .ok (.goto 4, 3) := by decide +kernel
theorem d_X9_isPlace_22 : decode c_X9_isPlace 22 = .ok (.iconst 0, 1) := by decide +kernel
theorem d_X9_isPlace_23 : decode c_X9_isPlace 23 = .ok (.ireturn, 1) := by decide +kernel
theorem d_X9_hasChain_0 : decode c_X9_hasChain 0 = .ok (.aload_n 0, 1) := by decide +kernel
theorem d_X9_hasChain_1 : decode c_X9_hasChain 1 = .ok (.iload_n 1, 1) := by decide +kernel
theorem d_X9_hasChain_2 : decode c_X9_hasChain 2 = .ok (.invokevirtual 184, 3) := by decide +kernel
theorem d_X9_hasChain_5 : decode c_X9_hasChain 5 = .ok (.ifCond .eq 17, 3) := by decide +kernel
theorem d_X9_hasChain_8 : decode c_X9_hasChain 8 = .ok (.iload_n 2, 1) := by decide +kernel
theorem d_X9_hasChain_9 : decode c_X9_hasChain 9 = .ok (.ifCond .lt 13, 3) := by decide +kernel
theorem d_X9_hasChain_12 : decode c_X9_hasChain 12 = .ok (.iload_n 2, 1) := by decide +kernel
theorem d_X9_hasChain_13 : decode c_X9_hasChain 13 = .ok (.bipush 7, 2) := by decide +kernel
theorem d_X9_hasChain_15 : decode c_X9_hasChain 15 = .ok (.if_icmp .ge 7, 3) := by decide +kernel
theorem d_X9_hasChain_18 : decode c_X9_hasChain 18 = .ok (.iconst 1, 1) := by decide +kernel
theorem d_X9_hasChain_19 : decode c_X9_hasChain 19 = .ok (.goto 4, 3) := by decide +kernel
theorem d_X9_hasChain_22 : decode c_X9_hasChain 22 = .ok (.iconst 0, 1) := by decide +kernel
theorem d_X9_hasChain_23 : decode c_X9_hasChain 23 = .ok (.ireturn, 1) := by decide +kernel
theorem d_X9_addBinding_0 : decode c_X9_addBinding 0 = .ok (.aload_n 1, 1) := by decide +kernel
theorem d_X9_addBinding_1 : decode c_X9_addBinding 1 = .ok (.invokevirtual 94, 3) := by decide +kernel
theorem d_X9_addBinding_4 : decode c_X9_addBinding 4 = .ok (.ifCond .eq 6, 3) := by decide +kernel
theorem d_X9_addBinding_7 : decode c_X9_addBinding 7 = .ok (.bipush (-5), 2) := by decide +kernel
theorem d_X9_addBinding_9 : decode c_X9_addBinding 9 = .ok (.ireturn, 1) := by decide +kernel
theorem d_X9_addBinding_10 : decode c_X9_addBinding 10 = .ok (.aload_n 1, 1) := by decide +kernel
theorem d_X9_addBinding_11 : decode c_X9_addBinding 11 = .ok (.iload_n 2, 1) := by decide +kernel
theorem d_X9_addBinding_12 : decode c_X9_addBinding 12 = .ok (.aload_n 0, 1) := by decide +kernel
theorem d_X9_addBinding_13 : decode c_X9_addBinding 13 = .ok (.getfield 10, 3) := by decide +kernel
theorem d_X9_addBinding_16 : decode c_X9_addBinding 16 = .ok (.iload_n 2, 1) := by decide +kernel
theorem d_X9_addBinding_17 : decode c_X9_addBinding 17 = .ok (.iload_n 3, 1) := by decide +kernel
theorem d_X9_addBinding_18 : decode c_X9_addBinding 18 = .ok (.invokevirtual 187, 3) := by decide +kernel
theorem d_X9_addBinding_21 : decode c_X9_addBinding 21 = .ok (.invokevirtual 191, 3) := by decide +kernel
theorem d_X9_addBinding_24 : decode c_X9_addBinding 24 = .ok (.iconst 0, 1) := by decide +kernel
theorem d_X9_addBinding_25 : decode c_X9_addBinding 25 = .ok (.ireturn, 1) := by decide +kernel
theorem d_X9_findConflictOfInterceptor_0 : decode c_X9_findConflictOfInterceptor 0 = .ok (.iconst 0, 1) := by decide +kernel
theorem d_X9_findConflictOfInterceptor_1 : decode c_X9_findConflictOfInterceptor 1 = .ok (.istore_n 1, 1) := by decide +kernel
theorem d_X9_findConflictOfInterceptor_2 : decode c_X9_findConflictOfInterceptor 2 = .ok (.iload_n 1, 1) := by decide +kernel
theorem d_X9_findConflictOfInterceptor_3 : decode c_X9_findConflictOfInterceptor 3 = .ok (.aload_n 0, 1) := by decide +kernel
theorem d_X9_findConflictOfInterceptor_4 : decode c_X9_findConflictOfInterceptor 4 = .ok (.getfield 64, 3) := by decide +kernel
theorem d_X9_findConflictOfInterceptor_7 : decode c_X9_findConflictOfInterceptor 7 = .ok (.if_icmp .ge 30, 3) := by decide +kernel
theorem d_X9_findConflictOfInterceptor_10 : decode c_X9_findConflictOfInterceptor 10 = .ok (.aload_n 0, 1) := by decide +kernel
theorem d_X9_findConflictOfInterceptor_11 : decode c_X9_findConflictOfInterceptor 11 = .ok (.aload_n 0, 1) := by decide +kernel
theorem d_X9_findConflictOfInterceptor_12 : decode c_X9_findConflictOfInterceptor 12 = .ok (.getfield 18, 3) := by decide +kernel
theorem d_X9_findConflictOfInterceptor_15 : decode c_X9_findConflictOfInterceptor 15 = .ok (.iload_n 1, 1) := by decide +kernel
theorem d_X9_findConflictOfInterceptor_16 : decode c_X9_findConflictOfInterceptor 16 = .ok (.aaload, 1) := by decide +kernel
theorem d_X9_findConflictOfInterceptor_17 : decode c_X9_findConflictOfInterceptor 17 = .ok (.getfield 119, 3) := by decide +kernel
theorem d_X9_findConflictOfInterceptor_20 : decode c_X9_findConflictOfInterceptor 20 = .ok (.invokevirtual 195, 3) := by decide +kernel
theorem d_X9_findConflictOfInterceptor_23 : decode c_X9_findConflictOfInterceptor 23 = .ok (.ifCond .eq 8, 3) := by decide +kernel
theorem d_X9_findConflictOfInterceptor_26 : decode c_X9_findConflictOfInterceptor 26 = .ok (.bipush 100, 2) := by decide +kernel
theorem d_X9_findConflictOfInterceptor_28 : decode c_X9_findConflictOfInterceptor 28 = .ok (.iload_n 1, 1) := by decide +kernel
theorem d_X9_findConflictOfInterceptor_29 : decode c_X9_findConflictOfInterceptor 29 = .ok (.iadd, 1) := by decide +kernel
theorem d_X9_findConflictOfInterceptor_30 : decode c_X9_findConflictOfInterceptor 30 = .ok (.ireturn, 1) := by decide +kernel
theorem d_X9_findConflictOfInterceptor_31 : decode c_X9_findConflictOfInterceptor 31 = .ok (.iinc 1 1, 3) := by decide +kernel
theorem d_X9_findConflictOfInterceptor_34 : decode c_X9_findConflictOfInterceptor 34 = .ok (.goto (-32), 3) := by decide +kernel
theorem d_X9_findConflictOfInterceptor_37 : decode c_X9_findConflictOfInterceptor 37 = .ok (.iconst 0, 1) := by decide +kernel
theorem d_X9_findConflictOfInterceptor_38 : decode c_X9_findConflictOfInterceptor 38 = .ok (.ireturn, 1) := by decide +kernel
theorem d_X9_findConflictOfComponent_0 : decode c_X9_findConflictOfComponent 0 = .ok (.iconst 0, 1) := by decide +kernel
theorem d_X9_findConflictOfComponent_1 : decode c_X9_findConflictOfComponent 1 = .ok (.istore_n 1, 1) := by decide +kernel
theorem d_X9_findConflictOfComponent_2 : decode c_X9_findConflictOfComponent 2 = .ok (.iload_n 1, 1) := by decide +kernel
theorem d_X9_findConflictOfComponent_3 : decode c_X9_findConflictOfComponent 3 = .ok (.aload_n 0, 1) := by decide +kernel
theorem d_X9_findConflictOfComponent_4 : decode c_X9_findConflictOfComponent 4 = .ok (.getfield 71, 3) := by decide +kernel
theorem d_X9_findConflictOfComponent_7 : decode c_X9_findConflictOfComponent 7 = .ok (.if_icmp .ge 81, 3) := by decide +kernel
theorem d_X9_findConflictOfComponent_10 : decode c_X9_findConflictOfComponent 10 = .ok (.aload_n 0, 1) := by decide +kernel
theorem d_X9_findConflictOfComponent_11 : decode c_X9_findConflictOfComponent 11 = .ok (.aload_n 0, 1) := by decide +kernel
theorem d_X9_findConflictOfComponent_12 : decode c_X9_findConflictOfComponent 12 = .ok (.getfield 32, 3) := by decide +kernel
theorem d_X9_findConflictOfComponent_15 : decode c_X9_findConflictOfComponent 15 = .ok (.iload_n 1, 1) := by decide +kernel
theorem d_X9_findConflictOfComponent_16 : decode c_X9_findConflictOfComponent 16 = .ok (.aaload, 1) := by decide +kernel
theorem d_X9_findConflictOfComponent_17 : decode c_X9_findConflictOfComponent 17 = .ok (.getfield 199, 3) := by decide +kernel
theorem d_X9_findConflictOfComponent_20 : decode c_X9_findConflictOfComponent 20 = .ok (.getfield 133, 3) := by decide +kernel
theorem d_X9_findConflictOfComponent_23 : decode c_X9_findConflictOfComponent 23 = .ok (.invokevirtual 195, 3) := by decide +kernel
theorem d_X9_findConflictOfComponent_26 : decode c_X9_findConflictOfComponent 26 = .ok (.ifCond .eq 12, 3) := by decide +kernel
theorem d_X9_findConflictOfComponent_29 : decode c_X9_findConflictOfComponent 29 = .ok (.sipush 200, 3) := by decide +kernel
theorem d_X9_findConflictOfComponent_32 : decode c_X9_findConflictOfComponent 32 = .ok (.bipush 8, 2) := by decide +kernel
theorem d_X9_findConflictOfComponent_34 : decode c_X9_findConflictOfComponent 34 = .ok (.iload_n 1, 1) := by decide +kernel
theorem d_X9_findConflictOfComponent_35 : decode c_X9_findConflictOfComponent 35 = .ok (.imul, 1) := by decide +kernel
theorem d_X9_findConflictOfComponent_36 : decode c_X9_findConflictOfComponent 36 = .ok (.iadd, 1) := by decide +kernel
theorem d_X9_findConflictOfComponent_37 : decode c_X9_findConflictOfComponent 37 = .ok (.ireturn, 1) := by decide +kernel
theorem d_X9_findConflictOfComponent_38 : decode c_X9_findConflictOfComponent 38 = .ok (.iconst 0, 1) := by decide +kernel
theorem d_X9_findConflictOfComponent_39 : decode c_X9_findConflictOfComponent 39 = .ok (.istore_n 2, 1) := by decide +kernel
theorem d_X9_findConflictOfComponent_40 : decode c_X9_findConflictOfComponent 40 = .ok (.iload_n 2, 1) := by decide +kernel
theorem d_X9_findConflictOfComponent_41 : decode c_X9_findConflictOfComponent 41 = .ok (.iconst 4, 1) := by decide +kernel
theorem d_X9_findConflictOfComponent_42 : decode c_X9_findConflictOfComponent 42 = .ok (.if_icmp .ge 40, 3) := by decide +kernel
theorem d_X9_findConflictOfComponent_45 : decode c_X9_findConflictOfComponent 45 = .ok (.aload_n 0, 1) := by decide +kernel
theorem d_X9_findConflictOfComponent_46 : decode c_X9_findConflictOfComponent 46 = .ok (.aload_n 0, 1) := by decide +kernel
theorem d_X9_findConflictOfComponent_47 : decode c_X9_findConflictOfComponent 47 = .ok (.getfield 32, 3) := by decide +kernel
theorem d_X9_findConflictOfComponent_50 : decode c_X9_findConflictOfComponent 50 = .ok (.iload_n 1, 1) := by decide +kernel
theorem d_X9_findConflictOfComponent_51 : decode c_X9_findConflictOfComponent 51 = .ok (.aaload, 1) := by decide +kernel
theorem d_X9_findConflictOfComponent_52 : decode c_X9_findConflictOfComponent 52 = .ok (.iload_n 2, 1) := by decide +kernel
theorem d_X9_findConflictOfComponent_53 : decode c_X9_findConflictOfComponent 53 = .ok (.invokevirtual 129, 3) := by decide +kernel
theorem d_X9_findConflictOfComponent_56 : decode c_X9_findConflictOfComponent 56 = .ok (.getfield 133, 3) := by decide +kernel
theorem d_X9_findConflictOfComponent_59 : decode c_X9_findConflictOfComponent 59 = .ok (.invokevirtual 195, 3) := by decide +kernel
theorem d_X9_findConflictOfComponent_62 : decode c_X9_findConflictOfComponent 62 = .ok (.ifCond .eq 14, 3) := by decide +kernel
theorem d_X9_findConflictOfComponent_65 : decode c_X9_findConflictOfComponent 65 = .ok (.sipush 201, 3) := by decide +kernel
theorem d_X9_findConflictOfComponent_68 : decode c_X9_findConflictOfComponent 68 = .ok (.bipush 8, 2) := by decide +kernel
theorem d_X9_findConflictOfComponent_70 : decode c_X9_findConflictOfComponent 70 = .ok (.iload_n 1, 1) := by decide +kernel
theorem d_X9_findConflictOfComponent_71 : decode c_X9_findConflictOfComponent 71 = .ok (.imul, 1) := by decide +kernel
theorem d_X9_findConflictOfComponent_72 : decode c_X9_findConflictOfComponent 72 = .ok (.iadd, 1) := by decide +kernel
theorem d_X9_findConflictOfComponent_73 : decode c_X9_findConflictOfComponent 73 = .ok (.iload_n 2, 1) := by decide +kernel
theorem d_X9_findConflictOfComponent_74 : decode c_X9_findConflictOfComponent 74 = .ok (.iadd, 1) := by decide +kernel
theorem d_X9_findConflictOfComponent_75 : decode c_X9_findConflictOfComponent 75 = .ok (.ireturn, 1) := by decide +kernel
theorem d_X9_findConflictOfComponent_76 : decode c_X9_findConflictOfComponent 76 = .ok (.iinc 2 1, 3) := by decide +kernel
theorem d_X9_findConflictOfComponent_79 : decode c_X9_findConflictOfComponent 79 = .ok (.goto (-39), 3) := by decide +kernel
theorem d_X9_findConflictOfComponent_82 : decode c_X9_findConflictOfComponent 82 = .ok (.iinc 1 1, 3) := by decide +kernel
theorem d_X9_findConflictOfComponent_85 : decode c_X9_findConflictOfComponent 85 = .ok (.goto (-83), 3) := by decide +kernel
theorem d_X9_findConflictOfComponent_88 : decode c_X9_findConflictOfComponent 88 = .ok (.iconst 0, 1) := by decide +kernel
theorem d_X9_findConflictOfComponent_89 : decode c_X9_findConflictOfComponent 89 = .ok (.ireturn, 1) := by decide +kernel
theorem d_X9_hasConflict_0 : decode c_X9_hasConflict 0 = .ok (.aload_n 0, 1) := by decide +kernel
theorem d_X9_hasConflict_1 : decode c_X9_hasConflict 1 = .ok (.getfield 10, 3) := by decide +kernel
theorem d_X9_hasConflict_4 : decode c_X9_hasConflict 4 = .ok (.aload_n 1, 1) := by decide +kernel
theorem d_X9_hasConflict_5 : decode c_X9_hasConflict 5 = .ok (.aload_n 0, 1) := by decide +kernel
theorem d_X9_hasConflict_6 : decode c_X9_hasConflict 6 = .ok (.getfield 44, 3) := by decide +kernel
theorem d_X9_hasConflict_9 : decode c_X9_hasConflict 9 = .ok (.invokevirtual 203, 3) := by decide +kernel
theorem d_X9_hasConflict_12 : decode c_X9_hasConflict 12 = .ok (.aload_n 0, 1) := by decide +kernel
theorem d_X9_hasConflict_13 : decode c_X9_hasConflict 13 = .ok (.getfield 44, 3) := by decide +kernel
theorem d_X9_hasConflict_16 : decode c_X9_hasConflict 16 = .ok (.getfield 207, 3) := by decide +kernel
theorem d_X9_hasConflict_19 : decode c_X9_hasConflict 19 = .ok (.ireturn, 1) := by decide +kernel
theorem d_X9_findFinalWithChain_0 : decode c_X9_findFinalWithChain 0 = .ok (.iconst 0, 1) := by decide +kernel
theorem d_X9_findFinalWithChain_1 : decode c_X9_findFinalWithChain 1 = .ok (.istore_n 1, 1) := by decide +kernel
theorem d_X9_findFinalWithChain_2 : decode c_X9_findFinalWithChain 2 = .ok (.iload_n 1, 1) := by decide +kernel
theorem d_X9_findFinalWithChain_3 : decode c_X9_findFinalWithChain 3 = .ok (.aload_n 0, 1) := by decide +kernel
theorem d_X9_findFinalWithChain_4 : decode c_X9_findFinalWithChain 4 = .ok (.getfield 71, 3) := by decide +kernel
theorem d_X9_findFinalWithChain_7 : decode c_X9_findFinalWithChain 7 = .ok (.if_icmp .ge 71, 3) := by decide +kernel
theorem d_X9_findFinalWithChain_10 : decode c_X9_findFinalWithChain 10 = .ok (.iconst 0, 1) := by decide +kernel
theorem d_X9_findFinalWithChain_11 : decode c_X9_findFinalWithChain 11 = .ok (.istore_n 2, 1) := by decide +kernel
theorem d_X9_findFinalWithChain_12 : decode c_X9_findFinalWithChain 12 = .ok (.iload_n 2, 1) := by decide +kernel
theorem d_X9_findFinalWithChain_13 : decode c_X9_findFinalWithChain 13 = .ok (.iconst 4, 1) := by decide +kernel
theorem d_X9_findFinalWithChain_14 : decode c_X9_findFinalWithChain 14 = .ok (.if_icmp .ge 58, 3) := by decide +kernel
theorem d_X9_findFinalWithChain_17 : decode c_X9_findFinalWithChain 17 = .ok (.aload_n 0, 1) := by decide +kernel
theorem d_X9_findFinalWithChain_18 : decode c_X9_findFinalWithChain 18 = .ok (.getfield 32, 3) := by decide +kernel
theorem d_X9_findFinalWithChain_21 : decode c_X9_findFinalWithChain 21 = .ok (.iload_n 1, 1) := by decide +kernel
theorem d_X9_findFinalWithChain_22 : decode c_X9_findFinalWithChain 22 = .ok (.aaload, 1) := by decide +kernel
theorem d_X9_findFinalWithChain_23 : decode c_X9_findFinalWithChain 23 = .ok (.iload_n 2, 1) := by decide +kernel
theorem d_X9_findFinalWithChain_24 : decode c_X9_findFinalWithChain 24 = .ok (.invokevirtual 129, 3) := by decide +kernel
theorem d_X9_findFinalWithChain_27 : decode c_X9_findFinalWithChain 27 = .ok (.iconst 1, 1) := by decide +kernel
theorem d_X9_findFinalWithChain_28 : decode c_X9_findFinalWithChain 28 = .ok (.invokevirtual 171, 3) := by decide +kernel
theorem d_X9_findFinalWithChain_31 : decode c_X9_findFinalWithChain 31 = .ok (.ifCond .eq 35, 3) := by decide +kernel
theorem d_X9_findFinalWithChain_34 : decode c_X9_findFinalWithChain 34 = .ok (.aload_n 0, 1) := by decide +kernel
theorem d_X9_findFinalWithChain_35 : decode c_X9_findFinalWithChain 35 = .ok (.aload_n 0, 1) := by decide +kernel
theorem d_X9_findFinalWithChain_36 : decode c_X9_findFinalWithChain 36 = .ok (.getfield 32, 3) := by decide +kernel
theorem d_X9_findFinalWithChain_39 : decode c_X9_findFinalWithChain 39 = .ok (.iload_n 1, 1) := by decide +kernel
theorem d_X9_findFinalWithChain_40 : decode c_X9_findFinalWithChain 40 = .ok (.aaload, 1) := by decide +kernel
theorem d_X9_findFinalWithChain_41 : decode c_X9_findFinalWithChain 41 = .ok (.iload_n 2, 1) := by decide +kernel
theorem d_X9_findFinalWithChain_42 : decode c_X9_findFinalWithChain 42 = .ok (.invokevirtual 158, 3) := by decide +kernel
theorem d_X9_findFinalWithChain_45 : decode c_X9_findFinalWithChain 45 = .ok (.aload_n 0, 1) := by decide +kernel
theorem d_X9_findFinalWithChain_46 : decode c_X9_findFinalWithChain 46 = .ok (.getfield 50, 3) := by decide +kernel
theorem d_X9_findFinalWithChain_49 : decode c_X9_findFinalWithChain 49 = .ok (.getfield 162, 3) := by decide +kernel
theorem d_X9_findFinalWithChain_52 : decode c_X9_findFinalWithChain 52 = .ok (.iconst 1, 1) := by decide +kernel
theorem d_X9_findFinalWithChain_53 : decode c_X9_findFinalWithChain 53 = .ok (.if_icmp .le 13, 3) := by decide +kernel
theorem d_X9_findFinalWithChain_56 : decode c_X9_findFinalWithChain 56 = .ok (.sipush 300, 3) := by decide +kernel
theorem d_X9_findFinalWithChain_59 : decode c_X9_findFinalWithChain 59 = .ok (.iconst 4, 1) := by decide +kernel
theorem d_X9_findFinalWithChain_60 : decode c_X9_findFinalWithChain 60 = .ok (.iload_n 1, 1) := by decide +kernel
theorem d_X9_findFinalWithChain_61 : decode c_X9_findFinalWithChain 61 = .ok (.imul, 1) := by decide +kernel
theorem d_X9_findFinalWithChain_62 : decode c_X9_findFinalWithChain 62 = .ok (.iadd, 1) := by decide +kernel
theorem d_X9_findFinalWithChain_63 : decode c_X9_findFinalWithChain 63 = .ok (.iload_n 2, 1) := by decide +kernel
theorem d_X9_findFinalWithChain_64 : decode c_X9_findFinalWithChain 64 = .ok (.iadd, 1) := by decide +kernel
theorem d_X9_findFinalWithChain_65 : decode c_X9_findFinalWithChain 65 = .ok (.ireturn, 1) := by decide +kernel
theorem d_X9_findFinalWithChain_66 : decode c_X9_findFinalWithChain 66 = .ok (.iinc 2 1, 3) := by decide +kernel
theorem d_X9_findFinalWithChain_69 : decode c_X9_findFinalWithChain 69 = .ok (.goto (-57), 3) := by decide +kernel
theorem d_X9_findFinalWithChain_72 : decode c_X9_findFinalWithChain 72 = .ok (.iinc 1 1, 3) := by decide +kernel
theorem d_X9_findFinalWithChain_75 : decode c_X9_findFinalWithChain 75 = .ok (.goto (-73), 3) := by decide +kernel
theorem d_X9_findFinalWithChain_78 : decode c_X9_findFinalWithChain 78 = .ok (.iconst 0, 1) := by decide +kernel
theorem d_X9_findFinalWithChain_79 : decode c_X9_findFinalWithChain 79 = .ok (.ireturn, 1) := by decide +kernel
theorem d_X9_buildChain_0 : decode c_X9_buildChain 0 = .ok (.aload_n 0, 1) := by decide +kernel
theorem d_X9_buildChain_1 : decode c_X9_buildChain 1 = .ok (.getfield 50, 3) := by decide +kernel
theorem d_X9_buildChain_4 : decode c_X9_buildChain 4 = .ok (.iconst 0, 1) := by decide +kernel
theorem d_X9_buildChain_5 : decode c_X9_buildChain 5 = .ok (.putfield 162, 3) := by decide +kernel
theorem d_X9_buildChain_8 : decode c_X9_buildChain 8 = .ok (.iload_n 2, 1) := by decide +kernel
theorem d_X9_buildChain_9 : decode c_X9_buildChain 9 = .ok (.iconst 4, 1) := by decide +kernel
theorem d_X9_buildChain_10 : decode c_X9_buildChain 10 = .ok (.if_icmp .lt 44, 3) := by decide +kernel
theorem d_X9_buildChain_13 : decode c_X9_buildChain 13 = .ok (.iconst 2, 1) := by decide +kernel
theorem d_X9_buildChain_14 : decode c_X9_buildChain 14 = .ok (.iload_n 2, 1) := by decide +kernel
theorem d_X9_buildChain_15 : decode c_X9_buildChain 15 = .ok (.iconst 4, 1) := by decide +kernel
theorem d_X9_buildChain_16 : decode c_X9_buildChain 16 = .ok (.isub, 1) := by decide +kernel
theorem d_X9_buildChain_17 : decode c_X9_buildChain 17 = .ok (.ishl, 1) := by decide +kernel
theorem d_X9_buildChain_18 : decode c_X9_buildChain 18 = .ok (.istore_n 3, 1) := by decide +kernel
theorem d_X9_buildChain_19 : decode c_X9_buildChain 19 = .ok (.aload_n 0, 1) := by decide +kernel
theorem d_X9_buildChain_20 : decode c_X9_buildChain 20 = .ok (.getfield 10, 3) := by decide +kernel
theorem d_X9_buildChain_23 : decode c_X9_buildChain 23 = .ok (.aload_n 1, 1) := by decide +kernel
theorem d_X9_buildChain_24 : decode c_X9_buildChain 24 = .ok (.getfield 199, 3) := by decide +kernel
theorem d_X9_buildChain_27 : decode c_X9_buildChain 27 = .ok (.getfield 133, 3) := by decide +kernel
theorem d_X9_buildChain_30 : decode c_X9_buildChain 30 = .ok (.aload_n 0, 1) := by decide +kernel
theorem d_X9_buildChain_31 : decode c_X9_buildChain 31 = .ok (.getfield 40, 3) := by decide +kernel
theorem d_X9_buildChain_34 : decode c_X9_buildChain 34 = .ok (.invokevirtual 203, 3) := by decide +kernel
theorem d_X9_buildChain_37 : decode c_X9_buildChain 37 = .ok (.aload_n 0, 1) := by decide +kernel
theorem d_X9_buildChain_38 : decode c_X9_buildChain 38 = .ok (.aload_n 1, 1) := by decide +kernel
theorem d_X9_buildChain_39 : decode c_X9_buildChain 39 = .ok (.getfield 199, 3) := by decide +kernel
theorem d_X9_buildChain_42 : decode c_X9_buildChain 42 = .ok (.iload_n 3, 1) := by decide +kernel
theorem d_X9_buildChain_43 : decode c_X9_buildChain 43 = .ok (.invokevirtual 210, 3) := by decide +kernel
theorem d_X9_buildChain_46 : decode c_X9_buildChain 46 = .ok (.aload_n 0, 1) := by decide +kernel
theorem d_X9_buildChain_47 : decode c_X9_buildChain 47 = .ok (.iload_n 3, 1) := by decide +kernel
theorem d_X9_buildChain_48 : decode c_X9_buildChain 48 = .ok (.invokevirtual 214, 3) := by decide +kernel
theorem d_X9_buildChain_51 : decode c_X9_buildChain 51 = .ok (.goto 52, 3) := by decide +kernel
theorem d_X9_buildChain_54 : decode c_X9_buildChain 54 = .ok (.aload_n 1, 1) := by decide +kernel
theorem d_X9_buildChain_55 : decode c_X9_buildChain 55 = .ok (.iload_n 2, 1) := by decide +kernel
theorem d_X9_buildChain_56 : decode c_X9_buildChain 56 = .ok (.invokevirtual 129, 3) := by decide +kernel
theorem d_X9_buildChain_59 : decode c_X9_buildChain 59 = .ok (.astore_n 3, 1) := by decide +kernel
theorem d_X9_buildChain_60 : decode c_X9_buildChain 60 = .ok (.aload_n 0, 1) := by decide +kernel
theorem d_X9_buildChain_61 : decode c_X9_buildChain 61 = .ok (.aload_n 1, 1) := by decide +kernel
theorem d_X9_buildChain_62 : decode c_X9_buildChain 62 = .ok (.aload_n 3, 1) := by decide +kernel
theorem d_X9_buildChain_63 : decode c_X9_buildChain 63 = .ok (.invokevirtual 217, 3) := by decide +kernel
theorem d_X9_buildChain_66 : decode c_X9_buildChain 66 = .ok (.aload_n 3, 1) := by decide +kernel
theorem d_X9_buildChain_67 : decode c_X9_buildChain 67 = .ok (.iconst 2, 1) := by decide +kernel
theorem d_X9_buildChain_68 : decode c_X9_buildChain 68 = .ok (.invokevirtual 171, 3) := by decide +kernel
theorem d_X9_buildChain_71 : decode c_X9_buildChain 71 = .ok (.ifCond .ne 12, 3) := by decide +kernel
theorem d_X9_buildChain_74 : decode c_X9_buildChain 74 = .ok (.aload_n 0, 1) := by decide +kernel
theorem d_X9_buildChain_75 : decode c_X9_buildChain 75 = .ok (.aload_n 1, 1) := by decide +kernel
theorem d_X9_buildChain_76 : decode c_X9_buildChain 76 = .ok (.getfield 199, 3) := by decide +kernel
theorem d_X9_buildChain_79 : decode c_X9_buildChain 79 = .ok (.iconst 1, 1) := by decide +kernel
theorem d_X9_buildChain_80 : decode c_X9_buildChain 80 = .ok (.invokevirtual 210, 3) := by decide +kernel
theorem d_X9_buildChain_83 : decode c_X9_buildChain 83 = .ok (.aload_n 0, 1) := by decide +kernel
theorem d_X9_buildChain_84 : decode c_X9_buildChain 84 = .ok (.aload_n 3, 1) := by decide +kernel
theorem d_X9_buildChain_85 : decode c_X9_buildChain 85 = .ok (.iconst 1, 1) := by decide +kernel
theorem d_X9_buildChain_86 : decode c_X9_buildChain 86 = .ok (.invokevirtual 210, 3) := by decide +kernel
theorem d_X9_buildChain_89 : decode c_X9_buildChain 89 = .ok (.aload_n 0, 1) := by decide +kernel
theorem d_X9_buildChain_90 : decode c_X9_buildChain 90 = .ok (.iconst 1, 1) := by decide +kernel
theorem d_X9_buildChain_91 : decode c_X9_buildChain 91 = .ok (.invokevirtual 214, 3) := by decide +kernel
theorem d_X9_buildChain_94 : decode c_X9_buildChain 94 = .ok (.aload_n 0, 1) := by decide +kernel
theorem d_X9_buildChain_95 : decode c_X9_buildChain 95 = .ok (.aload_n 1, 1) := by decide +kernel
theorem d_X9_buildChain_96 : decode c_X9_buildChain 96 = .ok (.getfield 221, 3) := by decide +kernel
theorem d_X9_buildChain_99 : decode c_X9_buildChain 99 = .ok (.iload_n 2, 1) := by decide +kernel
theorem d_X9_buildChain_100 : decode c_X9_buildChain 100 = .ok (.invokevirtual 223, 3) := by decide +kernel
theorem d_X9_buildChain_103 : decode c_X9_buildChain 103 = .ok (.aload_n 0, 1) := by decide +kernel
theorem d_X9_buildChain_104 : decode c_X9_buildChain 104 = .ok (.getfield 50, 3) := by decide +kernel
theorem d_X9_buildChain_107 : decode c_X9_buildChain 107 = .ok (.bipush 32, 2) := by decide +kernel
theorem d_X9_buildChain_109 : decode c_X9_buildChain 109 = .ok (.iconst 0, 1) := by decide +kernel
theorem d_X9_buildChain_110 : decode c_X9_buildChain 110 = .ok (.invokevirtual 226, 3) := by decide +kernel
theorem d_X9_buildChain_113 : decode c_X9_buildChain 113 = .ok (.return_, 1) := by decide +kernel
theorem d_X9_findInForceForMethod_0 : decode c_X9_findInForceForMethod 0 = .ok (.aload_n 0, 1) := by decide +kernel
theorem d_X9_findInForceForMethod_1 : decode c_X9_findInForceForMethod 1 = .ok (.getfield 10, 3) := by decide +kernel
theorem d_X9_findInForceForMethod_4 : decode c_X9_findInForceForMethod 4 = .ok (.aload_n 2, 1) := by decide +kernel
theorem d_X9_findInForceForMethod_5 : decode c_X9_findInForceForMethod 5 = .ok (.getfield 133, 3) := by decide +kernel
theorem d_X9_findInForceForMethod_8 : decode c_X9_findInForceForMethod 8 = .ok (.aload_n 0, 1) := by decide +kernel
theorem d_X9_findInForceForMethod_9 : decode c_X9_findInForceForMethod 9 = .ok (.getfield 40, 3) := by decide +kernel
theorem d_X9_findInForceForMethod_12 : decode c_X9_findInForceForMethod 12 = .ok (.invokevirtual 203, 3) := by decide +kernel
theorem d_X9_findInForceForMethod_15 : decode c_X9_findInForceForMethod 15 = .ok (.aload_n 0, 1) := by decide +kernel
theorem d_X9_findInForceForMethod_16 : decode c_X9_findInForceForMethod 16 = .ok (.getfield 10, 3) := by decide +kernel
theorem d_X9_findInForceForMethod_19 : decode c_X9_findInForceForMethod 19 = .ok (.aload_n 1, 1) := by decide +kernel
theorem d_X9_findInForceForMethod_20 : decode c_X9_findInForceForMethod 20 = .ok (.getfield 199, 3) := by decide +kernel
theorem d_X9_findInForceForMethod_23 : decode c_X9_findInForceForMethod 23 = .ok (.getfield 133, 3) := by decide +kernel
theorem d_X9_findInForceForMethod_26 : decode c_X9_findInForceForMethod 26 = .ok (.aload_n 0, 1) := by decide +kernel
theorem d_X9_findInForceForMethod_27 : decode c_X9_findInForceForMethod 27 = .ok (.getfield 44, 3) := by decide +kernel
theorem d_X9_findInForceForMethod_30 : decode c_X9_findInForceForMethod 30 = .ok (.invokevirtual 203, 3) := by decide +kernel
theorem d_X9_findInForceForMethod_33 : decode c_X9_findInForceForMethod 33 = .ok (.aload_n 0, 1) := by decide +kernel
theorem d_X9_findInForceForMethod_34 : decode c_X9_findInForceForMethod 34 = .ok (.getfield 40, 3) := by decide +kernel
theorem d_X9_findInForceForMethod_37 : decode c_X9_findInForceForMethod 37 = .ok (.aload_n 0, 1) := by decide +kernel
theorem d_X9_findInForceForMethod_38 : decode c_X9_findInForceForMethod 38 = .ok (.getfield 44, 3) := by decide +kernel
theorem d_X9_findInForceForMethod_41 : decode c_X9_findInForceForMethod 41 = .ok (.invokevirtual 227, 3) := by decide +kernel
theorem d_X9_findInForceForMethod_44 : decode c_X9_findInForceForMethod 44 = .ok (.return_, 1) := by decide +kernel
theorem d_X9_appendListed_0 : decode c_X9_appendListed 0 = .ok (.iconst 0, 1) := by decide +kernel
theorem d_X9_appendListed_1 : decode c_X9_appendListed 1 = .ok (.istore_n 3, 1) := by decide +kernel
theorem d_X9_appendListed_2 : decode c_X9_appendListed 2 = .ok (.iload_n 3, 1) := by decide +kernel
theorem d_X9_appendListed_3 : decode c_X9_appendListed 3 = .ok (.aload_n 1, 1) := by decide +kernel
theorem d_X9_appendListed_4 : decode c_X9_appendListed 4 = .ok (.getfield 136, 3) := by decide +kernel
theorem d_X9_appendListed_7 : decode c_X9_appendListed 7 = .ok (.if_icmp .ge 50, 3) := by decide +kernel
theorem d_X9_appendListed_10 : decode c_X9_appendListed 10 = .ok (.aload_n 1, 1) := by decide +kernel
theorem d_X9_appendListed_11 : decode c_X9_appendListed 11 = .ok (.getfield 231, 3) := by decide +kernel
theorem d_X9_appendListed_14 : decode c_X9_appendListed 14 = .ok (.iload_n 3, 1) := by decide +kernel
theorem d_X9_appendListed_15 : decode c_X9_appendListed 15 = .ok (.iaload, 1) := by decide +kernel
theorem d_X9_appendListed_16 : decode c_X9_appendListed 16 = .ok (.istore 4, 2) := by decide +kernel
theorem d_X9_appendListed_18 : decode c_X9_appendListed 18 = .ok (.aload_n 0, 1) := by decide +kernel
theorem d_X9_appendListed_19 : decode c_X9_appendListed 19 = .ok (.getfield 18, 3) := by decide +kernel
theorem d_X9_appendListed_22 : decode c_X9_appendListed 22 = .ok (.iload 4, 2) := by decide +kernel
theorem d_X9_appendListed_24 : decode c_X9_appendListed 24 = .ok (.aaload, 1) := by decide +kernel
theorem d_X9_appendListed_25 : decode c_X9_appendListed 25 = .ok (.iload_n 2, 1) := by decide +kernel
theorem d_X9_appendListed_26 : decode c_X9_appendListed 26 = .ok (.invokevirtual 234, 3) := by decide +kernel
theorem d_X9_appendListed_29 : decode c_X9_appendListed 29 = .ok (.ifCond .eq 22, 3) := by decide +kernel
theorem d_X9_appendListed_32 : decode c_X9_appendListed 32 = .ok (.aload_n 0, 1) := by decide +kernel
theorem d_X9_appendListed_33 : decode c_X9_appendListed 33 = .ok (.getfield 50, 3) := by decide +kernel
theorem d_X9_appendListed_36 : decode c_X9_appendListed 36 = .ok (.iload 4, 2) := by decide +kernel
theorem d_X9_appendListed_38 : decode c_X9_appendListed 38 = .ok (.aload_n 0, 1) := by decide +kernel
theorem d_X9_appendListed_39 : decode c_X9_appendListed 39 = .ok (.getfield 18, 3) := by decide +kernel
theorem d_X9_appendListed_42 : decode c_X9_appendListed 42 = .ok (.iload 4, 2) := by decide +kernel
theorem d_X9_appendListed_44 : decode c_X9_appendListed 44 = .ok (.aaload, 1) := by decide +kernel
theorem d_X9_appendListed_45 : decode c_X9_appendListed 45 = .ok (.getfield 237, 3) := by decide +kernel
theorem d_X9_appendListed_48 : decode c_X9_appendListed 48 = .ok (.invokevirtual 226, 3) := by decide +kernel
theorem d_X9_appendListed_51 : decode c_X9_appendListed 51 = .ok (.iinc 3 1, 3) := by decide +kernel
theorem d_X9_appendListed_54 : decode c_X9_appendListed 54 = .ok (.goto (-52), 3) := by decide +kernel
theorem d_X9_appendListed_57 : decode c_X9_appendListed 57 = .ok (.return_, 1) := by decide +kernel
theorem d_X9_appendBound_0 : decode c_X9_appendBound 0 = .ok (.iconst 1, 1) := by decide +kernel
theorem d_X9_appendBound_1 : decode c_X9_appendBound 1 = .ok (.istore_n 2, 1) := by decide +kernel
theorem d_X9_appendBound_2 : decode c_X9_appendBound 2 = .ok (.iload_n 2, 1) := by decide +kernel
theorem d_X9_appendBound_3 : decode c_X9_appendBound 3 = .ok (.bipush 9, 2) := by decide +kernel
theorem d_X9_appendBound_5 : decode c_X9_appendBound 5 = .ok (.if_icmp .gt 76, 3) := by decide +kernel
theorem d_X9_appendBound_8 : decode c_X9_appendBound 8 = .ok (.iconst 0, 1) := by decide +kernel
theorem d_X9_appendBound_9 : decode c_X9_appendBound 9 = .ok (.istore_n 3, 1) := by decide +kernel
theorem d_X9_appendBound_10 : decode c_X9_appendBound 10 = .ok (.iload_n 3, 1) := by decide +kernel
theorem d_X9_appendBound_11 : decode c_X9_appendBound 11 = .ok (.aload_n 0, 1) := by decide +kernel
theorem d_X9_appendBound_12 : decode c_X9_appendBound 12 = .ok (.getfield 64, 3) := by decide +kernel
theorem d_X9_appendBound_15 : decode c_X9_appendBound 15 = .ok (.if_icmp .ge 60, 3) := by decide +kernel
theorem d_X9_appendBound_18 : decode c_X9_appendBound 18 = .ok (.aload_n 0, 1) := by decide +kernel
theorem d_X9_appendBound_19 : decode c_X9_appendBound 19 = .ok (.getfield 18, 3) := by decide +kernel
theorem d_X9_appendBound_22 : decode c_X9_appendBound 22 = .ok (.iload_n 3, 1) := by decide +kernel
theorem d_X9_appendBound_23 : decode c_X9_appendBound 23 = .ok (.aaload, 1) := by decide +kernel
theorem d_X9_appendBound_24 : decode c_X9_appendBound 24 = .ok (.astore 4, 2) := by decide +kernel
theorem d_X9_appendBound_26 : decode c_X9_appendBound 26 = .ok (.aload 4, 2) := by decide +kernel
theorem d_X9_appendBound_28 : decode c_X9_appendBound 28 = .ok (.getfield 240, 3) := by decide +kernel
theorem d_X9_appendBound_31 : decode c_X9_appendBound 31 = .ok (.iload_n 2, 1) := by decide +kernel
theorem d_X9_appendBound_32 : decode c_X9_appendBound 32 = .ok (.if_icmp .ne 37, 3) := by decide +kernel
theorem d_X9_appendBound_35 : decode c_X9_appendBound 35 = .ok (.aload 4, 2) := by decide +kernel
theorem d_X9_appendBound_37 : decode c_X9_appendBound 37 = .ok (.iload_n 1, 1) := by decide +kernel
theorem d_X9_appendBound_38 : decode c_X9_appendBound 38 = .ok (.invokevirtual 234, 3) := by decide +kernel
theorem d_X9_appendBound_41 : decode c_X9_appendBound 41 = .ok (.ifCond .eq 28, 3) := by decide +kernel
theorem d_X9_appendBound_44 : decode c_X9_appendBound 44 = .ok (.aload_n 0, 1) := by decide +kernel
theorem d_X9_appendBound_45 : decode c_X9_appendBound 45 = .ok (.aload 4, 2) := by decide +kernel
theorem d_X9_appendBound_47 : decode c_X9_appendBound 47 = .ok (.getfield 119, 3) := by decide +kernel
theorem d_X9_appendBound_50 : decode c_X9_appendBound 50 = .ok (.invokevirtual 243, 3) := by decide +kernel
theorem d_X9_appendBound_53 : decode c_X9_appendBound 53 = .ok (.ifCond .eq 16, 3) := by decide +kernel
theorem d_X9_appendBound_56 : decode c_X9_appendBound 56 = .ok (.aload_n 0, 1) := by decide +kernel
theorem d_X9_appendBound_57 : decode c_X9_appendBound 57 = .ok (.getfield 50, 3) := by decide +kernel
theorem d_X9_appendBound_60 : decode c_X9_appendBound 60 = .ok (.iload_n 3, 1) := by decide +kernel
theorem d_X9_appendBound_61 : decode c_X9_appendBound 61 = .ok (.aload 4, 2) := by decide +kernel
theorem d_X9_appendBound_63 : decode c_X9_appendBound 63 = .ok (.getfield 237, 3) := by decide +kernel
theorem d_X9_appendBound_66 : decode c_X9_appendBound 66 = .ok (.invokevirtual 226, 3) := by decide +kernel
theorem d_X9_appendBound_69 : decode c_X9_appendBound 69 = .ok (.iinc 3 1, 3) := by decide +kernel
theorem d_X9_appendBound_72 : decode c_X9_appendBound 72 = .ok (.goto (-62), 3) := by decide +kernel
theorem d_X9_appendBound_75 : decode c_X9_appendBound 75 = .ok (.iinc 2 1, 3) := by decide +kernel
theorem d_X9_appendBound_78 : decode c_X9_appendBound 78 = .ok (.goto (-76), 3) := by decide +kernel
theorem d_X9_appendBound_81 : decode c_X9_appendBound 81 = .ok (.return_, 1) := by decide +kernel
theorem d_X9_isInForce_0 : decode c_X9_isInForce 0 = .ok (.aload_n 0, 1) := by decide +kernel
theorem d_X9_isInForce_1 : decode c_X9_isInForce 1 = .ok (.getfield 10, 3) := by decide +kernel
theorem d_X9_isInForce_4 : decode c_X9_isInForce 4 = .ok (.aload_n 1, 1) := by decide +kernel
theorem d_X9_isInForce_5 : decode c_X9_isInForce 5 = .ok (.aload_n 0, 1) := by decide +kernel
theorem d_X9_isInForce_6 : decode c_X9_isInForce 6 = .ok (.getfield 44, 3) := by decide +kernel
theorem d_X9_isInForce_9 : decode c_X9_isInForce 9 = .ok (.invokevirtual 203, 3) := by decide +kernel
theorem d_X9_isInForce_12 : decode c_X9_isInForce 12 = .ok (.aload_n 1, 1) := by decide +kernel
theorem d_X9_isInForce_13 : decode c_X9_isInForce 13 = .ok (.getfield 246, 3) := by decide +kernel
theorem d_X9_isInForce_16 : decode c_X9_isInForce 16 = .ok (.ifCond .le 21, 3) := by decide +kernel
theorem d_X9_isInForce_19 : decode c_X9_isInForce 19 = .ok (.aload_n 0, 1) := by decide +kernel
theorem d_X9_isInForce_20 : decode c_X9_isInForce 20 = .ok (.getfield 44, 3) := by decide +kernel
theorem d_X9_isInForce_23 : decode c_X9_isInForce 23 = .ok (.aload_n 0, 1) := by decide +kernel
theorem d_X9_isInForce_24 : decode c_X9_isInForce 24 = .ok (.getfield 40, 3) := by decide +kernel
theorem d_X9_isInForce_27 : decode c_X9_isInForce 27 = .ok (.invokevirtual 247, 3) := by decide +kernel
theorem d_X9_isInForce_30 : decode c_X9_isInForce 30 = .ok (.ifCond .eq 7, 3) := by decide +kernel
theorem d_X9_isInForce_33 : decode c_X9_isInForce 33 = .ok (.iconst 1, 1) := by decide +kernel
theorem d_X9_isInForce_34 : decode c_X9_isInForce 34 = .ok (.goto 4, 3) := by decide +kernel
theorem d_X9_isInForce_37 : decode c_X9_isInForce 37 = .ok (.iconst 0, 1) := by decide +kernel
theorem d_X9_isInForce_38 : decode c_X9_isInForce 38 = .ok (.ireturn, 1) := by decide +kernel
theorem d_X9_appendDecorators_0 : decode c_X9_appendDecorators 0 = .ok (.iconst 1, 1) := by decide +kernel
theorem d_X9_appendDecorators_1 : decode c_X9_appendDecorators 1 = .ok (.istore_n 3, 1) := by decide +kernel
theorem d_X9_appendDecorators_2 : decode c_X9_appendDecorators 2 = .ok (.iload_n 3, 1) := by decide +kernel
theorem d_X9_appendDecorators_3 : decode c_X9_appendDecorators 3 = .ok (.bipush 9, 2) := by decide +kernel
theorem d_X9_appendDecorators_5 : decode c_X9_appendDecorators 5 = .ok (.if_icmp .gt 78, 3) := by decide +kernel
theorem d_X9_appendDecorators_8 : decode c_X9_appendDecorators 8 = .ok (.iconst 0, 1) := by decide +kernel
theorem d_X9_appendDecorators_9 : decode c_X9_appendDecorators 9 = .ok (.istore 4, 2) := by decide +kernel
theorem d_X9_appendDecorators_11 : decode c_X9_appendDecorators 11 = .ok (.iload 4, 2) := by decide +kernel
theorem d_X9_appendDecorators_13 : decode c_X9_appendDecorators 13 = .ok (.aload_n 0, 1) := by decide +kernel
theorem d_X9_appendDecorators_14 : decode c_X9_appendDecorators 14 = .ok (.getfield 68, 3) := by decide +kernel
theorem d_X9_appendDecorators_17 : decode c_X9_appendDecorators 17 = .ok (.if_icmp .ge 60, 3) := by decide +kernel
theorem d_X9_appendDecorators_20 : decode c_X9_appendDecorators 20 = .ok (.aload_n 0, 1) := by decide +kernel
theorem d_X9_appendDecorators_21 : decode c_X9_appendDecorators 21 = .ok (.getfield 25, 3) := by decide +kernel
theorem d_X9_appendDecorators_24 : decode c_X9_appendDecorators 24 = .ok (.iload 4, 2) := by decide +kernel
theorem d_X9_appendDecorators_26 : decode c_X9_appendDecorators 26 = .ok (.aaload, 1) := by decide +kernel
theorem d_X9_appendDecorators_27 : decode c_X9_appendDecorators 27 = .ok (.getfield 251, 3) := by decide +kernel
theorem d_X9_appendDecorators_30 : decode c_X9_appendDecorators 30 = .ok (.iload_n 3, 1) := by decide +kernel
theorem d_X9_appendDecorators_31 : decode c_X9_appendDecorators 31 = .ok (.if_icmp .ne 40, 3) := by decide +kernel
theorem d_X9_appendDecorators_34 : decode c_X9_appendDecorators 34 = .ok (.aload_n 0, 1) := by decide +kernel
theorem d_X9_appendDecorators_35 : decode c_X9_appendDecorators 35 = .ok (.getfield 25, 3) := by decide +kernel
theorem d_X9_appendDecorators_38 : decode c_X9_appendDecorators 38 = .ok (.iload 4, 2) := by decide +kernel
theorem d_X9_appendDecorators_40 : decode c_X9_appendDecorators 40 = .ok (.aaload, 1) := by decide +kernel
theorem d_X9_appendDecorators_41 : decode c_X9_appendDecorators 41 = .ok (.iload_n 1, 1) := by decide +kernel
theorem d_X9_appendDecorators_42 : decode c_X9_appendDecorators 42 = .ok (.iload_n 2, 1) := by decide +kernel
theorem d_X9_appendDecorators_43 : decode c_X9_appendDecorators 43 = .ok (.invokevirtual 252, 3) := by decide +kernel
theorem d_X9_appendDecorators_46 : decode c_X9_appendDecorators 46 = .ok (.ifCond .eq 25, 3) := by decide +kernel
theorem d_X9_appendDecorators_49 : decode c_X9_appendDecorators 49 = .ok (.aload_n 0, 1) := by decide +kernel
theorem d_X9_appendDecorators_50 : decode c_X9_appendDecorators 50 = .ok (.getfield 50, 3) := by decide +kernel
theorem d_X9_appendDecorators_53 : decode c_X9_appendDecorators 53 = .ok (.bipush 16, 2) := by decide +kernel
theorem d_X9_appendDecorators_55 : decode c_X9_appendDecorators 55 = .ok (.iload 4, 2) := by decide +kernel
theorem d_X9_appendDecorators_57 : decode c_X9_appendDecorators 57 = .ok (.iadd, 1) := by decide +kernel
theorem d_X9_appendDecorators_58 : decode c_X9_appendDecorators 58 = .ok (.aload_n 0, 1) := by decide +kernel
theorem d_X9_appendDecorators_59 : decode c_X9_appendDecorators 59 = .ok (.getfield 25, 3) := by decide +kernel
theorem d_X9_appendDecorators_62 : decode c_X9_appendDecorators 62 = .ok (.iload 4, 2) := by decide +kernel
theorem d_X9_appendDecorators_64 : decode c_X9_appendDecorators 64 = .ok (.aaload, 1) := by decide +kernel
theorem d_X9_appendDecorators_65 : decode c_X9_appendDecorators 65 = .ok (.getfield 255, 3) := by decide +kernel
theorem d_X9_appendDecorators_68 : decode c_X9_appendDecorators 68 = .ok (.invokevirtual 226, 3) := by decide +kernel
theorem d_X9_appendDecorators_71 : decode c_X9_appendDecorators 71 = .ok (.iinc 4 1, 3) := by decide +kernel
theorem d_X9_appendDecorators_74 : decode c_X9_appendDecorators 74 = .ok (.goto (-63), 3) := by decide +kernel
theorem d_X9_appendDecorators_77 : decode c_X9_appendDecorators 77 = .ok (.iinc 3 1, 3) := by decide +kernel
theorem d_X9_appendDecorators_80 : decode c_X9_appendDecorators 80 = .ok (.goto (-78), 3) := by decide +kernel
theorem d_X9_appendDecorators_83 : decode c_X9_appendDecorators 83 = .ok (.return_, 1) := by decide +kernel
end
section
/-! THE STATE: families of places. 0 to 23 the class, 24 and on the reference; 99 the script -/
def xkd : Nat → Nat
  | 0 => 0
  | 1 => 0
  | 2 => 2
  | 3 => 1
  | 4 => 0
  | 5 => 1
  | 6 => 1
  | 7 => 3
  | 8 => 0
  | 9 => 4
  | 10 => 0
  | 11 => 5
  | 12 => 0
  | 13 => 0
  | 14 => 1
  | 15 => 6
  | 16 => 0
  | 17 => 2
  | 18 => 1
  | 19 => 0
  | 20 => 1
  | 21 => 1
  | 22 => 0
  | 23 => 1
  | 24 => 0
  | 32 => 2
  | 34 => 1
  | 35 => 1
  | 36 => 1
  | 38 => 1
  | 39 => 1
  | 40 => 1
  | 42 => 1
  | 43 => 1
  | 44 => 1
  | 45 => 1
  | 47 => 1
  | 48 => 1
  | 49 => 1
  | 50 => 1
  | 51 => 1
  | 52 => 1
  | 53 => 1
  | 55 => 1
  | 56 => 1
  | 58 => 1
  | 59 => 1
  | 61 => 1
  | 62 => 1
  | 63 => 1
  | 64 => 1
  | 66 => 1
  | _ => 9
def xci : Nat → Nat
  | 0 => 9
  | 1 => 0
  | 4 => 1
  | 8 => 6
  | 10 => 5
  | 12 => 4
  | 13 => 8
  | 16 => 3
  | 19 => 2
  | 22 => 7
  | 24 => 10
  | _ => 99
def xns : Nat → Nat
  | 0 => 12
  | 1 => 4
  | 4 => 3
  | 8 => 4
  | 10 => 4
  | 12 => 3
  | 13 => 4
  | 16 => 3
  | 19 => 3
  | 22 => 7
  | 24 => 42
  | _ => 0
def xcn : Nat → Nat
  | 0 => 1
  | 1 => 1
  | 2 => 1
  | 3 => 1
  | 4 => 29
  | 5 => 29
  | 6 => 29
  | 7 => 1
  | 8 => 8
  | 9 => 1
  | 10 => 4
  | 11 => 1
  | 12 => 4
  | 13 => 20
  | 14 => 20
  | 15 => 4
  | 16 => 2
  | 17 => 2
  | 18 => 2
  | 19 => 1
  | 20 => 1
  | 21 => 1
  | 22 => 1
  | 23 => 1
  | 24 => 1
  | 32 => 1
  | 34 => 1
  | 35 => 1
  | 36 => 1
  | 38 => 1
  | 39 => 1
  | 40 => 1
  | 42 => 1
  | 43 => 1
  | 44 => 1
  | 45 => 1
  | 47 => 1
  | 48 => 1
  | 49 => 1
  | 50 => 1
  | 51 => 1
  | 52 => 1
  | 53 => 1
  | 55 => 1
  | 56 => 1
  | 58 => 1
  | 59 => 1
  | 61 => 1
  | 62 => 1
  | 63 => 1
  | 64 => 1
  | 66 => 1
  | _ => 0
def xln : Nat → Nat → Nat
  | 2, _ => 8
  | 3, _ => 16
  | 5, i => (if i = 0 then 16 else 4)
  | 6, i => (if i = 0 then 16 else 4)
  | 7, _ => 8
  | 9, _ => 4
  | 11, _ => 4
  | 14, _ => 4
  | 15, _ => 4
  | 17, _ => 8
  | 18, _ => 8
  | 20, _ => 21
  | 21, _ => 21
  | 23, _ => 64
  | 32, _ => 8
  | 34, _ => 16
  | 35, _ => 16
  | 36, _ => 16
  | 38, _ => 8
  | 39, _ => 8
  | 40, _ => 8
  | 42, _ => 4
  | 43, _ => 4
  | 44, _ => 4
  | 45, _ => 4
  | 47, _ => 4
  | 48, _ => 16
  | 49, _ => 28
  | 50, _ => 112
  | 51, _ => 112
  | 52, _ => 28
  | 53, _ => 112
  | 55, _ => 24
  | 56, _ => 24
  | 58, _ => 48
  | 59, _ => 48
  | 61, _ => 24
  | 62, _ => 24
  | 63, _ => 24
  | 64, _ => 24
  | 66, _ => 64
  | _, _ => 0
def xsl : Nat → Nat → Option (Nat × (Nat → Nat))
  | 0, 0 => some (1, fun _ => 0)
  | 0, 1 => some (7, fun _ => 0)
  | 0, 3 => some (9, fun _ => 0)
  | 0, 5 => some (11, fun _ => 0)
  | 0, 8 => some (16, fun _ => 0)
  | 0, 9 => some (16, fun _ => 1)
  | 0, 10 => some (19, fun _ => 0)
  | 0, 11 => some (22, fun _ => 0)
  | 1, 1 => some (2, fun _ => 0)
  | 1, 2 => some (3, fun _ => 0)
  | 1, 3 => some (4, fun _ => 0)
  | 4, 1 => some (5, fun i => i)
  | 4, 2 => some (6, fun i => i)
  | 8, 3 => some (4, fun i => i + 1)
  | 12, 1 => some (13, fun i => 5 * i)
  | 12, 2 => some (15, fun i => i)
  | 13, 0 => some (4, fun i => i + 9)
  | 13, 1 => some (14, fun i => i)
  | 16, 0 => some (17, fun i => i)
  | 16, 1 => some (18, fun i => i)
  | 19, 1 => some (20, fun _ => 0)
  | 19, 2 => some (21, fun _ => 0)
  | 22, 0 => some (23, fun _ => 0)
  | 24, 2 => some (32, fun _ => 0)
  | 24, 4 => some (34, fun _ => 0)
  | 24, 5 => some (35, fun _ => 0)
  | 24, 6 => some (36, fun _ => 0)
  | 24, 8 => some (38, fun _ => 0)
  | 24, 9 => some (39, fun _ => 0)
  | 24, 10 => some (40, fun _ => 0)
  | 24, 12 => some (42, fun _ => 0)
  | 24, 13 => some (43, fun _ => 0)
  | 24, 14 => some (44, fun _ => 0)
  | 24, 15 => some (45, fun _ => 0)
  | 24, 17 => some (47, fun _ => 0)
  | 24, 18 => some (48, fun _ => 0)
  | 24, 19 => some (49, fun _ => 0)
  | 24, 20 => some (50, fun _ => 0)
  | 24, 21 => some (51, fun _ => 0)
  | 24, 22 => some (52, fun _ => 0)
  | 24, 23 => some (53, fun _ => 0)
  | 24, 25 => some (55, fun _ => 0)
  | 24, 26 => some (56, fun _ => 0)
  | 24, 28 => some (58, fun _ => 0)
  | 24, 29 => some (59, fun _ => 0)
  | 24, 31 => some (61, fun _ => 0)
  | 24, 32 => some (62, fun _ => 0)
  | 24, 33 => some (63, fun _ => 0)
  | 24, 34 => some (64, fun _ => 0)
  | 24, 36 => some (66, fun _ => 0)
  | _, _ => none
def xel : Nat → Nat × (Nat → Nat → Nat)
  | 7 => (8, fun _ k => k)
  | 9 => (10, fun _ k => k)
  | 11 => (12, fun _ k => k)
  | 15 => (13, fun i k => 5 * i + 1 + k)
  | _ => (0, fun _ _ => 0)
theorem xsl_ok {f j f' i : Nat} {g : Nat → Nat} (h : xsl f j = some (f', g)) (hi : i < xcn f) : g i < xcn f' := by
  unfold xsl at h
  split at h <;> first | (cases h; simp only [xcn] at hi ⊢; omega) | cases h
theorem xel_kd {f : Nat} (h : 3 ≤ xkd f ∧ xkd f ≤ 6) : f = 7 ∨ f = 9 ∨ f = 11 ∨ f = 15 := by
  unfold xkd at h
  split at h <;> omega
theorem xel_ok {f f' i k : Nat} {g : Nat → Nat → Nat} (hg : xel f = (f', g)) (h : 3 ≤ xkd f ∧ xkd f ≤ 6) (hi : i < xcn f) (hk : k < xln f i) : g i k < xcn f' := by
  rcases xel_kd h with rfl | rfl | rfl | rfl <;> (cases hg; simp only [xcn, xln] at hi hk ⊢; omega)
def xty (G : (Nat → ClassId) × (Nat → Nat → Nat) × (Nat → Nat → Nat) × (Nat → ClassId)) : List (ClassId × FieldType) := [(G.2.2.2 0, .int), (G.2.2.2 1, .boolean), (G.2.2.2 2, .object "BoundChains$Interceptor"), (G.2.2.2 3, .object "BoundChains$Decorator"), (G.2.2.2 4, .object "BoundChains$Component"), (G.2.2.2 5, .object "BoundChains$Place")]
theorem xty_at (G : (Nat → ClassId) × (Nat → Nat → Nat) × (Nat → Nat → Nat) × (Nat → ClassId)) {u : Nat} (h : u < 4) : ∃ ty, (xty G)[u + 2]? = some (G.2.2.2 (u + 2), ty) := by
  rcases (show u = 0 ∨ u = 1 ∨ u = 2 ∨ u = 3 by omega) with rfl | rfl | rfl | rfl <;> exact ⟨_, rfl⟩
theorem xty_at' (G : (Nat → ClassId) × (Nat → Nat → Nat) × (Nat → Nat → Nat) × (Nat → ClassId)) {u : Nat} (h : u < 4) : ∃ C, (xty G)[u + 2]? = some (G.2.2.2 (u + 2), .object C) := by
  rcases (show u = 0 ∨ u = 1 ∨ u = 2 ∨ u = 3 by omega) with rfl | rfl | rfl | rfl <;> exact ⟨_, rfl⟩
end
section
/-! OWN KIT: abstract values (an int, or a place (family, number)), memory by family, number, slot; the judgement XJ with locals and stack as lists of abstract values -/
abbrev XV : Type := Int32 ⊕ (Nat × Nat)
abbrev Mem : Type := Nat → Nat → Nat → Int32
abbrev XG : Type := (Nat → ClassId) × (Nat → Nat → Nat) × (Nat → Nat → Nat) × (Nat → ClassId)
def mset (μ : Mem) (f i j : Nat) (x : Int32) : Mem := fun f' i' => if f' = f ∧ i' = i then upd (μ f' i') j x else μ f' i'
theorem mset_same (μ : Mem) (f i j : Nat) (x : Int32) : mset μ f i j x f i = upd (μ f i) j x := by simp [mset]
theorem mset_f {μ : Mem} {f i j f' : Nat} {x : Int32} (h : f' ≠ f) : mset μ f i j x f' = μ f' := by funext i'; simp [mset, h]
theorem mset_i {μ : Mem} {f i j f' i' : Nat} {x : Int32} (h : i' ≠ i) : mset μ f i j x f' i' = μ f' i' := by simp [mset, h]
theorem mset_ne {μ : Mem} {f i j f' i' : Nat} {x : Int32} (h : ¬ (f' = f ∧ i' = i)) : mset μ f i j x f' i' = μ f' i' := if_neg h
theorem mset_at (μ : Mem) (f i j : Nat) (x : Int32) : mset μ f i j x f i j = x := by rw [mset_same]; simp [upd]
theorem mset_j {μ : Mem} {f i j j' : Nat} {x : Int32} (h : j' ≠ j) : mset μ f i j x f i j' = μ f i j' := by rw [mset_same]; simp [upd, h]
def cv (G : XG) : XV → Value
  | .inl x => .int x
  | .inr q => .ref (G.2.2.1 q.1 q.2)
theorem cv_cat (G : XG) (v : XV) : (cv G v).category = 1 := by cases v <;> rfl
theorem cv_ref (G : XG) (q : Nat × Nat) : ∃ a, cv G (.inr q) = .ref a := ⟨_, rfl⟩
def xf (G : XG) (μ : Mem) (f i : Nat) : List Value := (List.range (xns f)).map fun j => match xsl f j with
  | none => Value.int (μ f i j)
  | some q => Value.ref (G.2.2.1 q.1 (q.2 i))
theorem xf_at {G : XG} {μ : Mem} {f i j : Nat} (h : j < xns f) : (xf G μ f i)[j]? = some (match xsl f j with | none => Value.int (μ f i j) | some q => Value.ref (G.2.2.1 q.1 (q.2 i))) := by
  simp [xf, List.getElem?_map, List.getElem?_range h]
theorem xf_set {G : XG} {μ : Mem} {f i j : Nat} {x : Int32} (h : j < xns f) (hs : xsl f j = none) : (xf G μ f i).set j (.int x) = xf G (mset μ f i j x) f i := by
  apply List.ext_getElem?
  intro k
  by_cases hk : k < xns f
  · rw [xf_at hk, mset_same]
    by_cases e : k = j
    · subst e
      rw [List.getElem?_set_self (by simp [xf]; exact hk), hs]
      simp [upd]
    · rw [List.getElem?_set_ne (Ne.symm e), xf_at hk]
      simp [upd, e]
  · rw [List.getElem?_eq_none (by simp [xf]; omega), List.getElem?_eq_none (by simp [xf]; omega)]
/-- what lies at a place -/
def xc (G : XG) (μ : Mem) (f i : Nat) : va_E := match xkd f with
  | 0 => .inr (xci f, xf G μ f i)
  | 1 => .inl (G.2.2.2 0, xln f i, .inl (μ f i))
  | 2 => .inl (G.2.2.2 1, xln f i, .inl (μ f i))
  | t => .inl (G.2.2.2 (t - 1), xln f i, .inr (.inr (.inr (.inr fun k => some (G.2.2.1 (xel f).1 ((xel f).2 i k))))))
theorem xc0 {G : XG} {μ : Mem} {f i : Nat} (h : xkd f = 0) : xc G μ f i = .inr (xci f, xf G μ f i) := by simp [xc, h]
theorem xc1 {G : XG} {μ : Mem} {f i : Nat} (h : xkd f = 1) : xc G μ f i = .inl (G.2.2.2 0, xln f i, .inl (μ f i)) := by simp [xc, h]
theorem xc2 {G : XG} {μ : Mem} {f i : Nat} (h : xkd f = 2) : xc G μ f i = .inl (G.2.2.2 1, xln f i, .inl (μ f i)) := by simp [xc, h]
theorem xc3 {G : XG} {μ : Mem} {f i t : Nat} (h : xkd f = t + 3) : xc G μ f i = .inl (G.2.2.2 (t + 2), xln f i, .inr (.inr (.inr (.inr fun k => some (G.2.2.1 (xel f).1 ((xel f).2 i k)))))) := by simp [xc, h]
theorem xc_ne {G : XG} {μ μ' : Mem} {f i : Nat} (h : μ' f i = μ f i) : xc G μ' f i = xc G μ f i := by
  unfold xc xf
  rw [h]
def XP (G : XG) (μ : Mem) (H : Heap) : Prop := ∀ f i, i < xcn f → va_at (G.1, G.2.1) vwCl (G.2.2.1 f i, xc G μ f i) H
def XI (G : XG) : Prop := ∀ f i f' i', i < xcn f → i' < xcn f' → G.2.2.1 f i = G.2.2.1 f' i' → f = f' ∧ i = i'
def xA (G : XG) : Nat → Prop := fun q => ∃ f i, i < xcn f ∧ G.2.2.1 f i = q
def XU (G : XG) (μ : Mem) (U : State) : Prop := XP G μ U.heap ∧ va_K (G.1, G.2.1) vwCl (xty G) U
theorem XP.one {G : XG} {μ : Mem} {H : Heap} (h : XP G μ H) {f i : Nat} (hi : i < xcn f) {e : va_E} (he : xc G μ f i = e) : va_P (G.1, G.2.1) vwCl [(G.2.2.1 f i, e)] H := by
  intro k q hk
  have hz : k < 1 := (List.getElem?_eq_some_iff.mp hk).1
  rw [show k = 0 by omega] at hk
  cases hk
  rw [← he]
  exact h f i hi
/-- one place is written -/
theorem XP.put {G : XG} {μ μ' : Mem} {H H1 : Heap} (hI : XI G) (h : XP G μ H) {f i : Nat} (hi : i < xcn f) (hn : va_at (G.1, G.2.1) vwCl (G.2.2.1 f i, xc G μ' f i) H1) (ho : ∀ q, q ≠ G.2.2.1 f i → H1[q]? = H[q]?) (hm : ∀ f' i', ¬ (f' = f ∧ i' = i) → μ' f' i' = μ f' i') : XP G μ' H1 := by
  intro f' i' hi'
  by_cases e : f' = f ∧ i' = i
  · obtain ⟨rfl, rfl⟩ := e
    exact hn
  · rw [xc_ne (hm f' i' e)]
    exact (h f' i' hi').kept (ho _ (fun q => e (hI f' i' f i hi' hi q)))
/-- a value is an int, the script, or a place that is there -/
def okv : XV → Prop
  | .inl _ => True
  | .inr q => q.1 = 99 ∨ q.2 < xcn q.1
def oks (st : List XV) : Prop := ∀ v ∈ st, okv v
def okl (L : List (Option XV)) : Prop := ∀ v, some v ∈ L → okv v
theorem oks.tl {v : XV} {st : List XV} (h : oks (v :: st)) : oks st := fun w hw => h w (List.mem_cons_of_mem _ hw)
theorem oks.hd {v : XV} {st : List XV} (h : oks (v :: st)) : okv v := h v List.mem_cons_self
theorem oks.cons {v : XV} {st : List XV} (h : oks st) (hv : okv v) : oks (v :: st) := fun w hw => by
  rcases List.mem_cons.mp hw with rfl | hw
  · exact hv
  · exact h w hw
theorem oks.int {x : Int32} {st : List XV} (h : oks st) : oks (.inl x :: st) := h.cons trivial
theorem okl.set {L : List (Option XV)} {i : Nat} {v : XV} (h : okl L) (hv : okv v) : okl (L.set i (some v)) := fun w hw => by
  rcases List.mem_or_eq_of_mem_set hw with h1 | h1
  · exact h w h1
  · cases h1
    exact hv
def xlv (G : XG) (ls : Array Slot) (nL : Nat) (L : List (Option XV)) : Prop := ls.size = nL ∧ L.length = nL ∧ lv_wf ls ∧ ∀ (k : Nat) (v : XV), L[k]? = some (some v) → ls[k]? = some (.val (cv G v))
def xll (G : XG) (L : List (Option XV)) : List (Nat × Value) := (List.range L.length).filterMap fun k => (L[k]?.join).map fun v => (k, cv G v)
theorem xll_mem {G : XG} {L : List (Option XV)} {q : Nat × Value} : q ∈ xll G L ↔ ∃ v, L[q.1]? = some (some v) ∧ q.2 = cv G v := by
  constructor
  · intro h
    obtain ⟨k, hk, he⟩ := List.mem_filterMap.mp h
    cases e : L[k]? with
    | none => rw [e] at he; cases he
    | some o =>
      cases o with
      | none => rw [e] at he; cases he
      | some v =>
        rw [e] at he
        simp at he
        subst he
        exact ⟨v, e, rfl⟩
  · rintro ⟨v, h1, h2⟩
    refine List.mem_filterMap.mpr ⟨q.1, List.mem_range.mpr ((List.getElem?_eq_some_iff.mp h1).1), ?_⟩
    rw [h1]
    simp
    rw [← h2]
theorem xlv.has {G : XG} {ls : Array Slot} {nL : Nat} {L : List (Option XV)} (h : xlv G ls nL L) : lv_has ls nL (xll G L) := by
  refine ⟨h.1, h.2.2.1, fun q hq => ?_⟩
  obtain ⟨v, h1, h2⟩ := xll_mem.mp hq
  rw [h2]
  exact h.2.2.2 q.1 v h1
theorem xlv.stored {G : XG} {ls ls' : Array Slot} {nL i : Nat} {L : List (Option XV)} {v : XV} (h : xlv G ls nL L) (hi : i < nL) (h' : lv_has ls' nL ((i, cv G v) :: (xll G L).filter (fun q => !(q.1 == i) && !(q.1 + 1 == i && q.2.category == 2)))) : xlv G ls' nL (L.set i (some v)) := by
  refine ⟨h'.1, by rw [List.length_set]; exact h.2.1, h'.2.1, fun k w hk => ?_⟩
  by_cases e : k = i
  · subst e
    rw [List.getElem?_set_self (by rw [h.2.1]; exact hi)] at hk
    cases hk
    exact h'.2.2 (k, cv G v) List.mem_cons_self
  · rw [List.getElem?_set_ne (Ne.symm e)] at hk
    refine h'.2.2 (k, cv G w) (List.mem_cons_of_mem _ (List.mem_filter.mpr ⟨xll_mem.mpr ⟨w, hk, rfl⟩, ?_⟩))
    simp [e, cv_cat]
/-- fewer locals known -/
theorem xlv.less {G : XG} {ls : Array Slot} {nL : Nat} {L L' : List (Option XV)} (h : xlv G ls nL L) (hl : L'.length = L.length) (hs : ∀ (k : Nat) (v : XV), L'[k]? = some (some v) → L[k]? = some (some v)) : xlv G ls nL L' := ⟨h.1, hl.trans h.2.1, h.2.2.1, fun k v hk => h.2.2.2 k v (hs k v hk)⟩
def xr (d : Nat) : Room := { frames := d, cells := 0, slots := 0, locals := 40 * d }
def XJ (G : XG) (A : Nat → Prop) (nL : Nat) (p : Program) (l : Launch) (e : Env) (R : Room) (s : State) (m : MethodId) (args : Array Value) (below : List Frame) (meth : Method) (c : Code) (cs sl : Nat) (Q : State → Prop) (pc : Nat) (L : List (Option XV)) (st : List XV) (μ : Mem) : Prop :=
  ∀ (ls : Array Slot) (H : Heap) (locs : List Loc), oks st → okl L → xlv G ls nL L → XP G μ H → va_S A s.heap H locs → W p l e R s m args below meth c H locs cs sl Q (F0 m pc ls (st.map (cv G)))
def XE (G : XG) (A : Nat → Prop) (own : String) (cc : ByteArray) (nL : Nat) (p : Program) (s : State) (m : MethodId) (args : Array Value) (c : Code) : Prop :=
  p.tables.exec = Jvm.exec ∧ c.code = cc ∧ c.maxLocals = nL ∧ s.vm.findClass own = some m.cls ∧ (∀ w ∈ WA, w.before args s = true) ∧ va_K (G.1, G.2.1) vwCl (xty G) s ∧ XI G ∧ ∀ q, xA G q → A q
section XROWS
variable {G : XG} {A : Nat → Prop} {nL : Nat} {p : Program} {l : Launch} {e : Env} {R : Room} {s : State} {m : MethodId} {args : Array Value} {below : List Frame} {meth : Method} {c : Code} {cs sl : Nat} {Q : State → Prop} {pc : Nat} {L : List (Option XV)} {st : List XV} {μ : Mem} {own : String} {cc : ByteArray}
theorem xj_loc {L' : List (Option XV)} (h : L = L') (kk : XJ G A nL p l e R s m args below meth c cs sl Q pc L' st μ) : XJ G A nL p l e R s m args below meth c cs sl Q pc L st μ := h ▸ kk
theorem xj_st {st' : List XV} (h : st = st') (kk : XJ G A nL p l e R s m args below meth c cs sl Q pc L st' μ) : XJ G A nL p l e R s m args below meth c cs sl Q pc L st μ := h ▸ kk
theorem xj_mem {μ' : Mem} (h : μ = μ') (kk : XJ G A nL p l e R s m args below meth c cs sl Q pc L st μ') : XJ G A nL p l e R s m args below meth c cs sl Q pc L st μ := h ▸ kk
/-- some locals are forgotten -/
theorem xj_less {L' : List (Option XV)} (hl : L'.length = L.length) (hs : ∀ (k : Nat) (v : XV), L'[k]? = some (some v) → L[k]? = some (some v)) (kk : XJ G A nL p l e R s m args below meth c cs sl Q pc L' st μ) : XJ G A nL p l e R s m args below meth c cs sl Q pc L st μ :=
  fun ls H locs ho hol hl1 hP hS => kk ls H locs ho (fun v hv => by
    obtain ⟨k, hk⟩ := List.getElem?_of_mem hv
    exact hol v (List.mem_of_getElem? (hs k v hk))) (hl1.less hl hs) hP hS
theorem xj_iconst (E : XE G A own cc nL p s m args c) {n : Int} {v : Int32} (hd : decode cc pc = .ok (.iconst n, 1)) (hv : Int32.ofInt n = v) (kk : XJ G A nL p l e R s m args below meth c cs sl Q (pc + 1) L (.inl v :: st) μ) : XJ G A nL p l e R s m args below meth c cs sl Q pc L st μ :=
  fun ls H locs ho hol hl hP hS => lv_iconst E.1 E.2.1 hd hv (kk ls H locs ho.int hol hl hP hS)
theorem xj_bipush (E : XE G A own cc nL p s m args c) {n : Int} {v : Int32} (hd : decode cc pc = .ok (.bipush n, 2)) (hv : (Int8.ofInt n).toInt32 = v) (kk : XJ G A nL p l e R s m args below meth c cs sl Q (pc + 2) L (.inl v :: st) μ) : XJ G A nL p l e R s m args below meth c cs sl Q pc L st μ :=
  fun ls H locs ho hol hl hP hS => lv_bipush E.1 E.2.1 hd hv (kk ls H locs ho.int hol hl hP hS)
theorem xj_sipush (E : XE G A own cc nL p s m args c) {n : Int} {v : Int32} (hd : decode cc pc = .ok (.sipush n, 3)) (hv : (Int16.ofInt n).toInt32 = v) (kk : XJ G A nL p l e R s m args below meth c cs sl Q (pc + 3) L (.inl v :: st) μ) : XJ G A nL p l e R s m args below meth c cs sl Q pc L st μ :=
  fun ls H locs ho hol hl hP hS => lv_sipush E.1 E.2.1 hd hv (kk ls H locs ho.int hol hl hP hS)
theorem xj_iload_n (E : XE G A own cc nL p s m args c) {k : Fin 4} {x : Int32} (hd : decode cc pc = .ok (.iload_n k, 1)) (hL : L[(k : Nat)]? = some (some (.inl x))) (kk : XJ G A nL p l e R s m args below meth c cs sl Q (pc + 1) L (.inl x :: st) μ) : XJ G A nL p l e R s m args below meth c cs sl Q pc L st μ :=
  fun ls H locs ho hol hl hP hS => lv_iload_n E.1 E.2.1 hd rfl (hl.2.2.2 _ _ hL) (kk ls H locs ho.int hol hl hP hS)
theorem xj_iload (E : XE G A own cc nL p s m args c) {k : Nat} {x : Int32} (hd : decode cc pc = .ok (.iload k, 2)) (hL : L[k]? = some (some (.inl x))) (kk : XJ G A nL p l e R s m args below meth c cs sl Q (pc + 2) L (.inl x :: st) μ) : XJ G A nL p l e R s m args below meth c cs sl Q pc L st μ :=
  fun ls H locs ho hol hl hP hS => lv_iload E.1 E.2.1 hd (hl.2.2.2 _ _ hL) (kk ls H locs ho.int hol hl hP hS)
theorem xj_aload_n (E : XE G A own cc nL p s m args c) {k : Fin 4} {q : Nat × Nat} (hd : decode cc pc = .ok (.aload_n k, 1)) (hL : L[(k : Nat)]? = some (some (.inr q))) (kk : XJ G A nL p l e R s m args below meth c cs sl Q (pc + 1) L (.inr q :: st) μ) : XJ G A nL p l e R s m args below meth c cs sl Q pc L st μ :=
  fun ls H locs ho hol hl hP hS => lv_aload_n E.1 E.2.1 hd rfl (hl.2.2.2 _ _ hL) (kk ls H locs (ho.cons (hol _ (List.mem_of_getElem? hL))) hol hl hP hS)
theorem xj_aload (E : XE G A own cc nL p s m args c) {k : Nat} {q : Nat × Nat} (hd : decode cc pc = .ok (.aload k, 2)) (hL : L[k]? = some (some (.inr q))) (kk : XJ G A nL p l e R s m args below meth c cs sl Q (pc + 2) L (.inr q :: st) μ) : XJ G A nL p l e R s m args below meth c cs sl Q pc L st μ :=
  fun ls H locs ho hol hl hP hS => lv_aload E.1 E.2.1 hd (hl.2.2.2 _ _ hL) (kk ls H locs (ho.cons (hol _ (List.mem_of_getElem? hL))) hol hl hP hS)
theorem xj_istore_n (E : XE G A own cc nL p s m args c) {k : Fin 4} {x : Int32} {L' : List (Option XV)} (hd : decode cc pc = .ok (.istore_n k, 1)) (hn : (k : Nat) < nL) (hL : L.set k (some (.inl x)) = L') (kk : XJ G A nL p l e R s m args below meth c cs sl Q (pc + 1) L' st μ) : XJ G A nL p l e R s m args below meth c cs sl Q pc L (.inl x :: st) μ := by
  subst hL
  exact fun ls H locs ho hol hl hP hS => lv_istore_n E.1 E.2.1 hd rfl hl.has hn rfl (fun ls' h' => kk ls' H locs ho.tl (hol.set trivial) (hl.stored hn h') hP hS)
theorem xj_istore (E : XE G A own cc nL p s m args c) {k : Nat} {x : Int32} {L' : List (Option XV)} (hd : decode cc pc = .ok (.istore k, 2)) (hn : k < nL) (hL : L.set k (some (.inl x)) = L') (kk : XJ G A nL p l e R s m args below meth c cs sl Q (pc + 2) L' st μ) : XJ G A nL p l e R s m args below meth c cs sl Q pc L (.inl x :: st) μ := by
  subst hL
  exact fun ls H locs ho hol hl hP hS => lv_istore E.1 E.2.1 hd hl.has hn rfl (fun ls' h' => kk ls' H locs ho.tl (hol.set trivial) (hl.stored hn h') hP hS)
theorem xj_astore_n (E : XE G A own cc nL p s m args c) {k : Fin 4} {q : Nat × Nat} {L' : List (Option XV)} (hd : decode cc pc = .ok (.astore_n k, 1)) (hn : (k : Nat) < nL) (hL : L.set k (some (.inr q)) = L') (kk : XJ G A nL p l e R s m args below meth c cs sl Q (pc + 1) L' st μ) : XJ G A nL p l e R s m args below meth c cs sl Q pc L (.inr q :: st) μ := by
  subst hL
  exact fun ls H locs ho hol hl hP hS => lv_astore_n E.1 E.2.1 hd rfl hl.has hn rfl (fun ls' h' => kk ls' H locs ho.tl (hol.set ho.hd) (hl.stored hn h') hP hS)
theorem xj_astore (E : XE G A own cc nL p s m args c) {k : Nat} {q : Nat × Nat} {L' : List (Option XV)} (hd : decode cc pc = .ok (.astore k, 2)) (hn : k < nL) (hL : L.set k (some (.inr q)) = L') (kk : XJ G A nL p l e R s m args below meth c cs sl Q (pc + 2) L' st μ) : XJ G A nL p l e R s m args below meth c cs sl Q pc L (.inr q :: st) μ := by
  subst hL
  exact fun ls H locs ho hol hl hP hS => lv_astore E.1 E.2.1 hd hl.has hn rfl (fun ls' h' => kk ls' H locs ho.tl (hol.set ho.hd) (hl.stored hn h') hP hS)
theorem xj_iinc (E : XE G A own cc nL p s m args c) {k : Nat} {n : Int} {x v : Int32} {L' : List (Option XV)} (hd : decode cc pc = .ok (.iinc k n, 3)) (hx : L[k]? = some (some (.inl x))) (hv : x + Int32.ofInt n = v) (hL : L.set k (some (.inl v)) = L') (kk : XJ G A nL p l e R s m args below meth c cs sl Q (pc + 3) L' st μ) : XJ G A nL p l e R s m args below meth c cs sl Q pc L st μ := by
  subst hL
  intro ls H locs ho hol hl hP hS
  have hn : k < nL := by rw [← hl.2.1]; exact (List.getElem?_eq_some_iff.mp hx).1
  have hm : ((k, Value.int x) : Nat × Value) ∈ xll G L := xll_mem.mpr ⟨.inl x, hx, rfl⟩
  obtain ⟨q, hq⟩ := List.getElem?_of_mem hm
  exact lv_iinc E.1 E.2.1 hd hl.has hq hv hn rfl (fun ls' h' => kk ls' H locs ho (hol.set trivial) (hl.stored (v := .inl v) hn h') hP hS)
theorem xj_iadd (E : XE G A own cc nL p s m args c) {x y : Int32} (hd : decode cc pc = .ok (.iadd, 1)) (kk : XJ G A nL p l e R s m args below meth c cs sl Q (pc + 1) L (.inl (x + y) :: st) μ) : XJ G A nL p l e R s m args below meth c cs sl Q pc L (.inl y :: .inl x :: st) μ :=
  fun ls H locs ho hol hl hP hS => lv_iadd E.1 E.2.1 hd (kk ls H locs ho.tl.tl.int hol hl hP hS)
theorem xj_isub (E : XE G A own cc nL p s m args c) {x y : Int32} (hd : decode cc pc = .ok (.isub, 1)) (kk : XJ G A nL p l e R s m args below meth c cs sl Q (pc + 1) L (.inl (x - y) :: st) μ) : XJ G A nL p l e R s m args below meth c cs sl Q pc L (.inl y :: .inl x :: st) μ :=
  fun ls H locs ho hol hl hP hS => lv_isub E.1 E.2.1 hd (kk ls H locs ho.tl.tl.int hol hl hP hS)
theorem xj_imul (E : XE G A own cc nL p s m args c) {x y : Int32} (hd : decode cc pc = .ok (.imul, 1)) (kk : XJ G A nL p l e R s m args below meth c cs sl Q (pc + 1) L (.inl (x * y) :: st) μ) : XJ G A nL p l e R s m args below meth c cs sl Q pc L (.inl y :: .inl x :: st) μ :=
  fun ls H locs ho hol hl hP hS => lv_imul E.1 E.2.1 hd (kk ls H locs ho.tl.tl.int hol hl hP hS)
theorem xj_iand (E : XE G A own cc nL p s m args c) {x y : Int32} (hd : decode cc pc = .ok (.iand, 1)) (kk : XJ G A nL p l e R s m args below meth c cs sl Q (pc + 1) L (.inl (x &&& y) :: st) μ) : XJ G A nL p l e R s m args below meth c cs sl Q pc L (.inl y :: .inl x :: st) μ :=
  fun ls H locs ho hol hl hP hS => lv_iand E.1 E.2.1 hd (kk ls H locs ho.tl.tl.int hol hl hP hS)
theorem xj_ishl (E : XE G A own cc nL p s m args c) {x y : Int32} (hd : decode cc pc = .ok (.ishl, 1)) (kk : XJ G A nL p l e R s m args below meth c cs sl Q (pc + 1) L (.inl (x <<< (y &&& 31)) :: st) μ) : XJ G A nL p l e R s m args below meth c cs sl Q pc L (.inl y :: .inl x :: st) μ :=
  fun ls H locs ho hol hl hP hS => lv_ishl E.1 E.2.1 hd (kk ls H locs ho.tl.tl.int hol hl hP hS)
theorem xj_ishr (E : XE G A own cc nL p s m args c) {x y : Int32} (hd : decode cc pc = .ok (.ishr, 1)) (kk : XJ G A nL p l e R s m args below meth c cs sl Q (pc + 1) L (.inl (x >>> (y &&& 31)) :: st) μ) : XJ G A nL p l e R s m args below meth c cs sl Q pc L (.inl y :: .inl x :: st) μ :=
  fun ls H locs ho hol hl hP hS => lv_ishr E.1 E.2.1 hd (kk ls H locs ho.tl.tl.int hol hl hP hS)
theorem xj_ineg (E : XE G A own cc nL p s m args c) {x : Int32} (hd : decode cc pc = .ok (.ineg, 1)) (kk : XJ G A nL p l e R s m args below meth c cs sl Q (pc + 1) L (.inl (-x) :: st) μ) : XJ G A nL p l e R s m args below meth c cs sl Q pc L (.inl x :: st) μ :=
  fun ls H locs ho hol hl hP hS => lv_ineg E.1 E.2.1 hd (kk ls H locs ho.tl.int hol hl hP hS)
theorem xj_idiv (E : XE G A own cc nL p s m args c) {x y : Int32} (hd : decode cc pc = .ok (.idiv, 1)) (hne : ¬ y = 0) (kk : XJ G A nL p l e R s m args below meth c cs sl Q (pc + 1) L (.inl (x / y) :: st) μ) : XJ G A nL p l e R s m args below meth c cs sl Q pc L (.inl y :: .inl x :: st) μ :=
  fun ls H locs ho hol hl hP hS => lv_idiv E.1 E.2.1 hd hne (kk ls H locs ho.tl.tl.int hol hl hP hS)
theorem xj_irem (E : XE G A own cc nL p s m args c) {x y : Int32} (hd : decode cc pc = .ok (.irem, 1)) (hne : ¬ y = 0) (kk : XJ G A nL p l e R s m args below meth c cs sl Q (pc + 1) L (.inl (x - x / y * y) :: st) μ) : XJ G A nL p l e R s m args below meth c cs sl Q pc L (.inl y :: .inl x :: st) μ :=
  fun ls H locs ho hol hl hP hS => lv_irem E.1 E.2.1 hd hne (kk ls H locs ho.tl.tl.int hol hl hP hS)
theorem xj_dup (E : XE G A own cc nL p s m args c) {v : XV} (hd : decode cc pc = .ok (.dup, 1)) (kk : XJ G A nL p l e R s m args below meth c cs sl Q (pc + 1) L (v :: v :: st) μ) : XJ G A nL p l e R s m args below meth c cs sl Q pc L (v :: st) μ :=
  fun ls H locs ho hol hl hP hS => lv_dup E.1 E.2.1 hd (cv_cat G v) (kk ls H locs (ho.cons ho.hd) hol hl hP hS)
theorem xj_pop (E : XE G A own cc nL p s m args c) {v : XV} (hd : decode cc pc = .ok (.pop, 1)) (kk : XJ G A nL p l e R s m args below meth c cs sl Q (pc + 1) L st μ) : XJ G A nL p l e R s m args below meth c cs sl Q pc L (v :: st) μ :=
  fun ls H locs ho hol hl hP hS => lv_pop E.1 E.2.1 hd (cv_cat G v) (kk ls H locs ho.tl hol hl hP hS)
theorem xj_dup_x1 (E : XE G A own cc nL p s m args c) {v w : XV} (hd : decode cc pc = .ok (.dup_x1, 1)) (kk : XJ G A nL p l e R s m args below meth c cs sl Q (pc + 1) L (v :: w :: v :: st) μ) : XJ G A nL p l e R s m args below meth c cs sl Q pc L (v :: w :: st) μ :=
  fun ls H locs ho hol hl hP hS => lv_dup_x1 E.1 E.2.1 hd (cv_cat G v) (cv_cat G w) (kk ls H locs (((ho.tl.tl.cons ho.hd).cons ho.tl.hd).cons ho.hd) hol hl hP hS)
theorem xj_dup_x2 (E : XE G A own cc nL p s m args c) {v w z : XV} (hd : decode cc pc = .ok (.dup_x2, 1)) (kk : XJ G A nL p l e R s m args below meth c cs sl Q (pc + 1) L (v :: w :: z :: v :: st) μ) : XJ G A nL p l e R s m args below meth c cs sl Q pc L (v :: w :: z :: st) μ :=
  fun ls H locs ho hol hl hP hS => lv_dup_x2 E.1 E.2.1 hd (cv_cat G v) (cv_cat G w) (cv_cat G z) (kk ls H locs ((((ho.tl.tl.tl.cons ho.hd).cons ho.tl.tl.hd).cons ho.tl.hd).cons ho.hd) hol hl hP hS)
theorem xj_dup2 (E : XE G A own cc nL p s m args c) {v w : XV} (hd : decode cc pc = .ok (.dup2, 1)) (kk : XJ G A nL p l e R s m args below meth c cs sl Q (pc + 1) L (v :: w :: v :: w :: st) μ) : XJ G A nL p l e R s m args below meth c cs sl Q pc L (v :: w :: st) μ :=
  fun ls H locs ho hol hl hP hS => lv_dup2_11 E.1 E.2.1 hd (cv_cat G v) (cv_cat G w) (kk ls H locs ((ho.cons ho.tl.hd).cons ho.hd) hol hl hP hS)
theorem xj_goto (E : XE G A own cc nL p s m args c) {off : Int} {tgt : Nat} (hd : decode cc pc = .ok (.goto off, 3)) (ht : (pc : Int) + off = (tgt : Int)) (kk : XJ G A nL p l e R s m args below meth c cs sl Q tgt L st μ) : XJ G A nL p l e R s m args below meth c cs sl Q pc L st μ :=
  fun ls H locs ho hol hl hP hS => lv_goto E.1 E.2.1 hd ht (kk ls H locs ho hol hl hP hS)
theorem xj_if_eq (E : XE G A own cc nL p s m args c) {x : Int32} {off : Int} {tgt : Nat} (hd : decode cc pc = .ok (.ifCond .eq off, 3)) (ht : (pc : Int) + off = (tgt : Int)) (kt : x = 0 → XJ G A nL p l e R s m args below meth c cs sl Q tgt L st μ) (kf : ¬ x = 0 → XJ G A nL p l e R s m args below meth c cs sl Q (pc + 3) L st μ) : XJ G A nL p l e R s m args below meth c cs sl Q pc L (.inl x :: st) μ :=
  fun ls H locs ho hol hl hP hS => lv_if_eq E.1 E.2.1 hd ht (fun h => kt h ls H locs ho.tl hol hl hP hS) (fun h => kf h ls H locs ho.tl hol hl hP hS)
theorem xj_icmp_eq (E : XE G A own cc nL p s m args c) {x y : Int32} {off : Int} {tgt : Nat} (hd : decode cc pc = .ok (.if_icmp .eq off, 3)) (ht : (pc : Int) + off = (tgt : Int)) (kt : x = y → XJ G A nL p l e R s m args below meth c cs sl Q tgt L st μ) (kf : ¬ x = y → XJ G A nL p l e R s m args below meth c cs sl Q (pc + 3) L st μ) : XJ G A nL p l e R s m args below meth c cs sl Q pc L (.inl y :: .inl x :: st) μ :=
  fun ls H locs ho hol hl hP hS => lv_icmp_eq E.1 E.2.1 hd ht (fun h => kt h ls H locs ho.tl.tl hol hl hP hS) (fun h => kf h ls H locs ho.tl.tl hol hl hP hS)
theorem xj_if_ne (E : XE G A own cc nL p s m args c) {x : Int32} {off : Int} {tgt : Nat} (hd : decode cc pc = .ok (.ifCond .ne off, 3)) (ht : (pc : Int) + off = (tgt : Int)) (kt : ¬ x = 0 → XJ G A nL p l e R s m args below meth c cs sl Q tgt L st μ) (kf : x = 0 → XJ G A nL p l e R s m args below meth c cs sl Q (pc + 3) L st μ) : XJ G A nL p l e R s m args below meth c cs sl Q pc L (.inl x :: st) μ :=
  fun ls H locs ho hol hl hP hS => lv_if_ne E.1 E.2.1 hd ht (fun h => kt h ls H locs ho.tl hol hl hP hS) (fun h => kf h ls H locs ho.tl hol hl hP hS)
theorem xj_icmp_ne (E : XE G A own cc nL p s m args c) {x y : Int32} {off : Int} {tgt : Nat} (hd : decode cc pc = .ok (.if_icmp .ne off, 3)) (ht : (pc : Int) + off = (tgt : Int)) (kt : ¬ x = y → XJ G A nL p l e R s m args below meth c cs sl Q tgt L st μ) (kf : x = y → XJ G A nL p l e R s m args below meth c cs sl Q (pc + 3) L st μ) : XJ G A nL p l e R s m args below meth c cs sl Q pc L (.inl y :: .inl x :: st) μ :=
  fun ls H locs ho hol hl hP hS => lv_icmp_ne E.1 E.2.1 hd ht (fun h => kt h ls H locs ho.tl.tl hol hl hP hS) (fun h => kf h ls H locs ho.tl.tl hol hl hP hS)
theorem xj_if_lt (E : XE G A own cc nL p s m args c) {x : Int32} {off : Int} {tgt : Nat} (hd : decode cc pc = .ok (.ifCond .lt off, 3)) (ht : (pc : Int) + off = (tgt : Int)) (kt : x < 0 → XJ G A nL p l e R s m args below meth c cs sl Q tgt L st μ) (kf : ¬ x < 0 → XJ G A nL p l e R s m args below meth c cs sl Q (pc + 3) L st μ) : XJ G A nL p l e R s m args below meth c cs sl Q pc L (.inl x :: st) μ :=
  fun ls H locs ho hol hl hP hS => lv_if_lt E.1 E.2.1 hd ht (fun h => kt h ls H locs ho.tl hol hl hP hS) (fun h => kf h ls H locs ho.tl hol hl hP hS)
theorem xj_icmp_lt (E : XE G A own cc nL p s m args c) {x y : Int32} {off : Int} {tgt : Nat} (hd : decode cc pc = .ok (.if_icmp .lt off, 3)) (ht : (pc : Int) + off = (tgt : Int)) (kt : x < y → XJ G A nL p l e R s m args below meth c cs sl Q tgt L st μ) (kf : ¬ x < y → XJ G A nL p l e R s m args below meth c cs sl Q (pc + 3) L st μ) : XJ G A nL p l e R s m args below meth c cs sl Q pc L (.inl y :: .inl x :: st) μ :=
  fun ls H locs ho hol hl hP hS => lv_icmp_lt E.1 E.2.1 hd ht (fun h => kt h ls H locs ho.tl.tl hol hl hP hS) (fun h => kf h ls H locs ho.tl.tl hol hl hP hS)
theorem xj_if_ge (E : XE G A own cc nL p s m args c) {x : Int32} {off : Int} {tgt : Nat} (hd : decode cc pc = .ok (.ifCond .ge off, 3)) (ht : (pc : Int) + off = (tgt : Int)) (kt : 0 ≤ x → XJ G A nL p l e R s m args below meth c cs sl Q tgt L st μ) (kf : ¬ 0 ≤ x → XJ G A nL p l e R s m args below meth c cs sl Q (pc + 3) L st μ) : XJ G A nL p l e R s m args below meth c cs sl Q pc L (.inl x :: st) μ :=
  fun ls H locs ho hol hl hP hS => lv_if_ge E.1 E.2.1 hd ht (fun h => kt h ls H locs ho.tl hol hl hP hS) (fun h => kf h ls H locs ho.tl hol hl hP hS)
theorem xj_icmp_ge (E : XE G A own cc nL p s m args c) {x y : Int32} {off : Int} {tgt : Nat} (hd : decode cc pc = .ok (.if_icmp .ge off, 3)) (ht : (pc : Int) + off = (tgt : Int)) (kt : y ≤ x → XJ G A nL p l e R s m args below meth c cs sl Q tgt L st μ) (kf : ¬ y ≤ x → XJ G A nL p l e R s m args below meth c cs sl Q (pc + 3) L st μ) : XJ G A nL p l e R s m args below meth c cs sl Q pc L (.inl y :: .inl x :: st) μ :=
  fun ls H locs ho hol hl hP hS => lv_icmp_ge E.1 E.2.1 hd ht (fun h => kt h ls H locs ho.tl.tl hol hl hP hS) (fun h => kf h ls H locs ho.tl.tl hol hl hP hS)
theorem xj_if_gt (E : XE G A own cc nL p s m args c) {x : Int32} {off : Int} {tgt : Nat} (hd : decode cc pc = .ok (.ifCond .gt off, 3)) (ht : (pc : Int) + off = (tgt : Int)) (kt : 0 < x → XJ G A nL p l e R s m args below meth c cs sl Q tgt L st μ) (kf : ¬ 0 < x → XJ G A nL p l e R s m args below meth c cs sl Q (pc + 3) L st μ) : XJ G A nL p l e R s m args below meth c cs sl Q pc L (.inl x :: st) μ :=
  fun ls H locs ho hol hl hP hS => lv_if_gt E.1 E.2.1 hd ht (fun h => kt h ls H locs ho.tl hol hl hP hS) (fun h => kf h ls H locs ho.tl hol hl hP hS)
theorem xj_icmp_gt (E : XE G A own cc nL p s m args c) {x y : Int32} {off : Int} {tgt : Nat} (hd : decode cc pc = .ok (.if_icmp .gt off, 3)) (ht : (pc : Int) + off = (tgt : Int)) (kt : y < x → XJ G A nL p l e R s m args below meth c cs sl Q tgt L st μ) (kf : ¬ y < x → XJ G A nL p l e R s m args below meth c cs sl Q (pc + 3) L st μ) : XJ G A nL p l e R s m args below meth c cs sl Q pc L (.inl y :: .inl x :: st) μ :=
  fun ls H locs ho hol hl hP hS => lv_icmp_gt E.1 E.2.1 hd ht (fun h => kt h ls H locs ho.tl.tl hol hl hP hS) (fun h => kf h ls H locs ho.tl.tl hol hl hP hS)
theorem xj_if_le (E : XE G A own cc nL p s m args c) {x : Int32} {off : Int} {tgt : Nat} (hd : decode cc pc = .ok (.ifCond .le off, 3)) (ht : (pc : Int) + off = (tgt : Int)) (kt : x ≤ 0 → XJ G A nL p l e R s m args below meth c cs sl Q tgt L st μ) (kf : ¬ x ≤ 0 → XJ G A nL p l e R s m args below meth c cs sl Q (pc + 3) L st μ) : XJ G A nL p l e R s m args below meth c cs sl Q pc L (.inl x :: st) μ :=
  fun ls H locs ho hol hl hP hS => lv_if_le E.1 E.2.1 hd ht (fun h => kt h ls H locs ho.tl hol hl hP hS) (fun h => kf h ls H locs ho.tl hol hl hP hS)
theorem xj_icmp_le (E : XE G A own cc nL p s m args c) {x y : Int32} {off : Int} {tgt : Nat} (hd : decode cc pc = .ok (.if_icmp .le off, 3)) (ht : (pc : Int) + off = (tgt : Int)) (kt : x ≤ y → XJ G A nL p l e R s m args below meth c cs sl Q tgt L st μ) (kf : ¬ x ≤ y → XJ G A nL p l e R s m args below meth c cs sl Q (pc + 3) L st μ) : XJ G A nL p l e R s m args below meth c cs sl Q pc L (.inl y :: .inl x :: st) μ :=
  fun ls H locs ho hol hl hP hS => lv_icmp_le E.1 E.2.1 hd ht (fun h => kt h ls H locs ho.tl.tl hol hl hP hS) (fun h => kf h ls H locs ho.tl.tl hol hl hP hS)
theorem xj_tableOut (E : XE G A own cc nL p s m args c) {dflt lo hi : Int} {offs : Array Int} {len : Nat} {x : Int32} {tgt : Nat} (hd : decode cc pc = .ok (.tableswitch dflt lo hi offs, len)) (h : x.toInt < lo ∨ hi < x.toInt) (ht : (pc : Int) + dflt = (tgt : Int)) (kk : XJ G A nL p l e R s m args below meth c cs sl Q tgt L st μ) : XJ G A nL p l e R s m args below meth c cs sl Q pc L (.inl x :: st) μ :=
  fun ls H locs ho hol hl hP hS => lv_tableOut E.1 E.2.1 hd h ht (kk ls H locs ho.tl hol hl hP hS)
theorem xj_tableIn (E : XE G A own cc nL p s m args c) {dflt lo hi : Int} {offs : Array Int} {len : Nat} {x : Int32} {off : Int} {tgt : Nat} (hd : decode cc pc = .ok (.tableswitch dflt lo hi offs, len)) (h1 : ¬ x.toInt < lo) (h2 : ¬ hi < x.toInt) (ho' : offs[(x.toInt - lo).toNat]? = some off) (ht : (pc : Int) + off = (tgt : Int)) (kk : XJ G A nL p l e R s m args below meth c cs sl Q tgt L st μ) : XJ G A nL p l e R s m args below meth c cs sl Q pc L (.inl x :: st) μ :=
  fun ls H locs ho hol hl hP hS => lv_tableIn E.1 E.2.1 hd h1 h2 ho' ht (kk ls H locs ho.tl hol hl hP hS)
theorem okv_at {f i : Nat} (h : okv (.inr (f, i))) (hf : f ≠ 99) : i < xcn f := h.resolve_left hf
theorem xj_geti (E : XE G A own cc nL p s m args c) {f i j ci idx : Nat} (hF : XFl own idx ci j) (hk : xkd f = 0 ∧ f ≠ 99) (hc : xci f = ci) (hj : j < xns f) (hs : xsl f j = none) (hd : decode cc pc = .ok (.getfield idx, 3)) (kk : XJ G A nL p l e R s m args below meth c cs sl Q (pc + 3) L (.inl (μ f i j) :: st) μ) : XJ G A nL p l e R s m args below meth c cs sl Q pc L (.inr (f, i) :: st) μ := by
  intro ls H locs ho hol hl hP hS
  obtain ⟨C, T, N, h1, h2, h3, h4⟩ := hF
  subst hc
  refine va_get (D := (G.1, G.2.1)) (v := .int (μ f i j)) E.1 E.2.1 E.2.2.2.2.1 h3 E.2.2.2.1 E.2.2.2.2.2.1 (hP.one (okv_at ho.hd hk.2) (xc0 hk.1)) 0 rfl h1 j h2 (E.2.2.2.2.1 _ h4) (fun _ h => h) ?_ hd (kk ls H locs ho.tl.int hol hl hP hS)
  rw [xf_at hj, hs]
theorem xj_geta (E : XE G A own cc nL p s m args c) {f i j ci idx f' : Nat} {g : Nat → Nat} (hF : XFl own idx ci j) (hk : xkd f = 0 ∧ f ≠ 99) (hc : xci f = ci) (hj : j < xns f) (hs : xsl f j = some (f', g)) (hd : decode cc pc = .ok (.getfield idx, 3)) (kk : XJ G A nL p l e R s m args below meth c cs sl Q (pc + 3) L (.inr (f', g i) :: st) μ) : XJ G A nL p l e R s m args below meth c cs sl Q pc L (.inr (f, i) :: st) μ := by
  intro ls H locs ho hol hl hP hS
  obtain ⟨C, T, N, h1, h2, h3, h4⟩ := hF
  subst hc
  have hi := okv_at ho.hd hk.2
  refine va_get (D := (G.1, G.2.1)) (v := .ref (G.2.2.1 f' (g i))) E.1 E.2.1 E.2.2.2.2.1 h3 E.2.2.2.1 E.2.2.2.2.2.1 (hP.one hi (xc0 hk.1)) 0 rfl h1 j h2 (E.2.2.2.2.1 _ h4) (fun _ h => h) ?_ hd (kk ls H locs (ho.tl.cons (Or.inr (xsl_ok hs hi))) hol hl hP hS)
  rw [xf_at hj, hs]
/-- an int or boolean field is written -/
theorem xj_put (E : XE G A own cc nL p s m args c) {f i j ci idx : Nat} {x : Int32} {ty : FieldType} (hF : XFp own idx ci j ty) (hk : xkd f = 0 ∧ f ≠ 99) (hc : xci f = ci) (hj : j < xns f) (hs : xsl f j = none) (hx : narrow ty (.int x) = .int x ∧ fits ty (.int x) = true) (hd : decode cc pc = .ok (.putfield idx, 3)) (kk : XJ G A nL p l e R s m args below meth c cs sl Q (pc + 3) L st (mset μ f i j x)) : XJ G A nL p l e R s m args below meth c cs sl Q pc L (.inl x :: .inr (f, i) :: st) μ := by
  intro ls H locs ho hol hl hP hS
  obtain ⟨C, T, N, tf, hcl, hjN, hin, h4, hty, hnm, hfin, hd2⟩ := hF
  subst hc
  have hi := okv_at ho.tl.hd hk.2
  have hts := E.2.2.2.2.1
  have hK := E.2.2.2.2.2.1
  have hap := va_apart (own := own) hts hin tf hty hnm hK hcl
  have hat := hP f i hi
  rw [xc0 hk.1] at hat
  obtain ⟨r, h1, cell, q1, q2, q3, q4⟩ := hat
  have hr : r = (C, T, N) := Option.some.inj (h1.symm.trans hcl)
  subst hr
  obtain ⟨hSl, hfc, kC, hkC, hkind⟩ := hK.1 (xci f) _ hcl
  obtain ⟨cf, kf, fi, fd, hfi, hsl⟩ := hSl j hjN
  have hlay := hts _ (hin _ (u_in_lay hjN))
  unfold u_lay at hlay
  rw [if_neg (by rw [hfin]; decide)] at hlay
  have hst := (u_facts hfc hkC (u_lays hts hin hjN) hfi).1
  have h6 := u_store hfc hkC hkind hlay hfi hd2 hx.1 hx.2
  refine W.putK E.1 E.2.1 (f := fd) ⟨E.2.2.2.1, hts _ h4, ⟨_, _, _, hfi⟩, hst⟩ (by rw [q2]; exact h6) q1 q3 (by rw [hsl]; exact k2_hasslot (q4 j hjN)) rfl rfl hd fun H' e1 e2 e3 => ?_
  rw [hsl] at e1 ⊢
  refine kk ls H' _ ho.tl.tl hol hl (hP.put E.2.2.2.2.2.2.1 hi ?_ e3 (fun f' i' hne => mset_ne hne)) (hS.put e2 e3 (E.2.2.2.2.2.2.2 _ ⟨f, i, hi, rfl⟩))
  rw [xc0 hk.1, ← xf_set hj hs]
  exact ⟨_, hcl, t_OB.to (V := updV (vp_V (xf G μ f i)) j (.int x)) ⟨_, e1, q2, q3, t_set q4 hap hjN (.int x)⟩ (fun k _ => vp_updV_set (by simp [xf]; exact hj) (.int x) k)⟩
theorem narrow_i (x : Int32) : narrow .int (.int x) = .int x ∧ fits .int (.int x) = true := ⟨rfl, rfl⟩
theorem narrow_z {x : Int32} (h : x = 0 ∨ x = 1) : narrow .boolean (.int x) = .int x ∧ fits .boolean (.int x) = true := by
  rcases h with rfl | rfl <;> exact ⟨by decide +kernel, by decide +kernel⟩
theorem xj_len (E : XE G A own cc nL p s m args c) {f i : Nat} {n : Int32} (hk : (1 ≤ xkd f ∧ xkd f ≤ 6) ∧ f ≠ 99) (hn : Int32.ofNat (xln f i) = n) (hd : decode cc pc = .ok (.arraylength, 1)) (kk : XJ G A nL p l e R s m args below meth c cs sl Q (pc + 1) L (.inl n :: st) μ) : XJ G A nL p l e R s m args below meth c cs sl Q pc L (.inr (f, i) :: st) μ := by
  intro ls H locs ho hol hl hP hS
  have hi := okv_at ho.hd hk.2
  have hK := E.2.2.2.2.2.1
  obtain ⟨t, ht⟩ : ∃ t, xkd f = t + 1 := ⟨xkd f - 1, by omega⟩
  rcases (show t = 0 ∨ t = 1 ∨ ∃ u, t = u + 2 ∧ u < 4 by
    by_cases h0 : t = 0
    · exact Or.inl h0
    · by_cases h1 : t = 1
      · exact Or.inr (Or.inl h1)
      · exact Or.inr (Or.inr ⟨t - 2, by omega, by omega⟩)) with rfl | rfl | ⟨u, rfl, hu⟩
  · exact va_alen E.1 E.2.1 hK (hP.one hi (xc1 ht)) 0 0 rfl rfl hn hd (kk ls H locs ho.tl.int hol hl hP hS)
  · exact va_alen E.1 E.2.1 hK (hP.one hi (xc2 ht)) 0 1 rfl rfl hn hd (kk ls H locs ho.tl.int hol hl hP hS)
  · obtain ⟨ty, hty⟩ := xty_at G hu
    exact va_alen E.1 E.2.1 hK (hP.one hi (xc3 (by omega))) 0 (u + 2) rfl hty hn hd (kk ls H locs ho.tl.int hol hl hP hS)
theorem xj_iald (E : XE G A own cc nL p s m args c) {f i : Nat} {k : Int32} (hk : xkd f = 1 ∧ f ≠ 99) (hin : vp_in k (xln f i)) (hd : decode cc pc = .ok (.iaload, 1)) (kk : XJ G A nL p l e R s m args below meth c cs sl Q (pc + 1) L (.inl (μ f i k.toNatClampNeg) :: st) μ) : XJ G A nL p l e R s m args below meth c cs sl Q pc L (.inl k :: .inr (f, i) :: st) μ :=
  fun ls H locs ho hol hl hP hS => va_iald E.1 E.2.1 E.2.2.2.2.2.1 (hP.one (okv_at ho.tl.hd hk.2) (xc1 hk.1)) 0 0 rfl rfl hin hd (kk ls H locs ho.tl.tl.int hol hl hP hS)
theorem xj_zald (E : XE G A own cc nL p s m args c) {f i : Nat} {k : Int32} (hk : xkd f = 2 ∧ f ≠ 99) (hin : vp_in k (xln f i)) (hd : decode cc pc = .ok (.baload, 1)) (kk : XJ G A nL p l e R s m args below meth c cs sl Q (pc + 1) L (.inl (μ f i k.toNatClampNeg) :: st) μ) : XJ G A nL p l e R s m args below meth c cs sl Q pc L (.inl k :: .inr (f, i) :: st) μ :=
  fun ls H locs ho hol hl hP hS => va_zald E.1 E.2.1 E.2.2.2.2.2.1 (hP.one (okv_at ho.tl.hd hk.2) (xc2 hk.1)) 0 1 rfl rfl hin hd (kk ls H locs ho.tl.tl.int hol hl hP hS)
theorem xj_aald (E : XE G A own cc nL p s m args c) {f i f' : Nat} {g : Nat → Nat → Nat} {k : Int32} (hk : (3 ≤ xkd f ∧ xkd f ≤ 6) ∧ f ≠ 99) (hg : xel f = (f', g)) (hin : vp_in k (xln f i)) (hd : decode cc pc = .ok (.aaload, 1)) (kk : XJ G A nL p l e R s m args below meth c cs sl Q (pc + 1) L (.inr (f', g i k.toNatClampNeg) :: st) μ) : XJ G A nL p l e R s m args below meth c cs sl Q pc L (.inl k :: .inr (f, i) :: st) μ := by
  intro ls H locs ho hol hl hP hS
  have hi := okv_at ho.tl.hd hk.2
  obtain ⟨u, hu⟩ : ∃ u, xkd f = u + 3 := ⟨xkd f - 3, by omega⟩
  obtain ⟨C, hty⟩ := xty_at' G (u := u) (by omega)
  have hlt : k.toNatClampNeg < xln f i := Nat.not_le.mp fun q => hin (Or.inr q)
  have h1 := hP.one hi (xc3 hu)
  rw [hg] at h1
  exact va_aldq E.1 E.2.1 E.2.2.2.2.2.1 h1 0 (u + 2) rfl hty hin hd (kk ls H locs (ho.tl.tl.cons (Or.inr (xel_ok hg hk.1 hi hlt))) hol hl hP hS)
theorem xj_iast (E : XE G A own cc nL p s m args c) {f i : Nat} {k x : Int32} (hk : xkd f = 1 ∧ f ≠ 99) (hin : vp_in k (xln f i)) (hd : decode cc pc = .ok (.iastore, 1)) (kk : XJ G A nL p l e R s m args below meth c cs sl Q (pc + 1) L st (mset μ f i k.toNatClampNeg x)) : XJ G A nL p l e R s m args below meth c cs sl Q pc L (.inl x :: .inl k :: .inr (f, i) :: st) μ := by
  intro ls H locs ho hol hl hP hS
  have hi := okv_at ho.tl.tl.hd hk.2
  have hat := hP f i hi
  rw [xc1 hk.1] at hat
  refine W.iast E.1 E.2.1 hat ((E.2.2.2.2.2.1.2 0 _ rfl).1 (xln f i) (fun j => .int (μ f i j))) (fun q => by cases q) (by show ¬ (k < 0 ∨ (arrV _ _ _).slots.size ≤ _); rw [arrV_size]; exact hin) rfl rfl hd fun H1 e1 z oq => ?_
  refine kk ls H1 _ ho.tl.tl.tl hol hl (hP.put E.2.2.2.2.2.2.1 hi ?_ oq (fun f' i' hne => mset_ne hne)) (hS.put z oq (E.2.2.2.2.2.2.2 _ ⟨f, i, hi, rfl⟩))
  rw [xc1 hk.1, mset_same]
  show H1[_]? = some (vp_cell _ _)
  rw [e1, vp_cell_i, vp_cell_i, arrV_store]
  congr 2
  funext q
  by_cases hq : q = k.toNatClampNeg
  · subst hq
    simp [updV, upd]
  · simp [updV, upd, hq]
theorem xj_zast (E : XE G A own cc nL p s m args c) {f i : Nat} {k x : Int32} (hk : xkd f = 2 ∧ f ≠ 99) (hin : vp_in k (xln f i)) (hx : x = 0 ∨ x = 1) (hd : decode cc pc = .ok (.bastore, 1)) (kk : XJ G A nL p l e R s m args below meth c cs sl Q (pc + 1) L st (mset μ f i k.toNatClampNeg x)) : XJ G A nL p l e R s m args below meth c cs sl Q pc L (.inl x :: .inl k :: .inr (f, i) :: st) μ := by
  intro ls H locs ho hol hl hP hS
  have hi := okv_at ho.tl.tl.hd hk.2
  have hat := hP f i hi
  rw [xc2 hk.1] at hat
  refine W.zast E.1 E.2.1 hat ((E.2.2.2.2.2.1.2 1 _ rfl).1 (xln f i) (fun j => .int (μ f i j))) (fun q => by cases q) (by show ¬ (k < 0 ∨ (arrV _ _ _).slots.size ≤ _); rw [arrV_size]; exact hin) rfl rfl hd fun H1 e1 z oq => ?_
  refine kk ls H1 _ ho.tl.tl.tl hol hl (hP.put E.2.2.2.2.2.2.1 hi ?_ oq (fun f' i' hne => mset_ne hne)) (hS.put z oq (E.2.2.2.2.2.2.2 _ ⟨f, i, hi, rfl⟩))
  rw [xc2 hk.1, mset_same]
  show H1[_]? = some (vp_cell _ _)
  rw [e1, vp_cell_i, vp_cell_i, arrV_store, (narrow_z hx).1]
  congr 2
  funext q
  by_cases hq : q = k.toNatClampNeg
  · subst hq
    simp [updV, upd]
  · simp [updV, upd, hq]
end XROWS
/-! contracts: Post speaks of the answer and of the memory behind it -/
def okr : Option XV → Prop
  | none => True
  | some v => okv v
def xQ (G : XG) (Post : Option XV → Mem → Prop) : Array Value → State → Outcome → State → Prop := fun _ st oc t => (∃ (r : Option XV) (μ' : Mem), oc = .returned (r.map (cv G)) ∧ okr r ∧ Post r μ' ∧ XU G μ' t) ∧ va_F (xA G) st t
def XMet (l : Launch) (G : XG) (y : MethodName) (cc : ByteArray) (mL : Nat) (ret : Option FieldType) (d : Nat) (as : List XV) (μ : Mem) (Post : Option XV → Mem → Prop) : Prop :=
  oks as → Met l y (Cond.code y cc mL ret :: WA) (xr d) (va_Pc (as.map (cv G)) (fun U => XU G μ U)) (xQ G Post) 0 0 (xA G)
section XCALLS
variable {G : XG} {A : Nat → Prop} {nL : Nat} {p : Program} {l : Launch} {e : Env} {R : Room} {s : State} {m : MethodId} {args : Array Value} {below : List Frame} {meth : Method} {c : Code} {cs sl : Nat} {Q : State → Prop} {pc : Nat} {L : List (Option XV)} {st : List XV} {μ : Mem} {own : String} {cc : ByteArray}
theorem xj_iret (E : XE G (xA G) own cc nL p s m args c) {Post : Option XV → Mem → Prop} {x : Int32} (hr : meth.sig.returnType = some .int) (hlk : meth.locks = false) (hd : decode cc pc = .ok (.ireturn, 1)) (hp : Post (some (.inl x)) μ) : XJ G (xA G) nL p l e R s m args below meth c 0 0 (MQ below (xQ G Post) args s 0 0 (xA G)) pc L [.inl x] μ :=
  fun ls H locs ho hol hl hP hS => W.iret E.1 E.2.1 hr (fun t ht hW => ⟨⟨some (.inl x), μ, rfl, trivial, hp, by rw [ht]; exact hP, va_K.moved hW.alike E.2.2.2.2.2.1⟩, hS.F ht⟩) hS.2.2 hd hlk
theorem xj_zret (E : XE G (xA G) own cc nL p s m args c) {Post : Option XV → Mem → Prop} {x : Int32} (hr : meth.sig.returnType = some .boolean) (hlk : meth.locks = false) (hx : x = 0 ∨ x = 1) (hd : decode cc pc = .ok (.ireturn, 1)) (hp : Post (some (.inl x)) μ) : XJ G (xA G) nL p l e R s m args below meth c 0 0 (MQ below (xQ G Post) args s 0 0 (xA G)) pc L [.inl x] μ :=
  fun ls H locs ho hol hl hP hS => W.zret E.1 E.2.1 hr (narrow_z hx).1 (fun t ht hW => ⟨⟨some (.inl x), μ, rfl, trivial, hp, by rw [ht]; exact hP, va_K.moved hW.alike E.2.2.2.2.2.1⟩, hS.F ht⟩) hS.2.2 hd hlk
theorem xj_vret (E : XE G (xA G) own cc nL p s m args c) {Post : Option XV → Mem → Prop} (hr : meth.sig.returnType = none) (hlk : meth.locks = false) (hd : decode cc pc = .ok (.return_, 1)) (hp : Post none μ) : XJ G (xA G) nL p l e R s m args below meth c 0 0 (MQ below (xQ G Post) args s 0 0 (xA G)) pc L [] μ :=
  fun ls H locs ho hol hl hP hS => W.vret E.1 E.2.1 hr (fun t ht hW => ⟨⟨none, μ, rfl, trivial, hp, by rw [ht]; exact hP, va_K.moved hW.alike E.2.2.2.2.2.1⟩, hS.F ht⟩) hS.2.2 hd hlk
theorem xj_aret (E : XE G (xA G) own cc nL p s m args c) {Post : Option XV → Mem → Prop} {q : Nat × Nat} {C : String} (hr : meth.sig.returnType = some (.object C)) (hlk : meth.locks = false) (hd : decode cc pc = .ok (.areturn, 1)) (hp : Post (some (.inr q)) μ) : XJ G (xA G) nL p l e R s m args below meth c 0 0 (MQ below (xQ G Post) args s 0 0 (xA G)) pc L [.inr q] μ :=
  fun ls H locs ho hol hl hP hS => W.aret E.1 E.2.1 hr (Or.inl ⟨C, rfl⟩) (Or.inr ⟨_, rfl⟩) (fun t ht hW => ⟨⟨some (.inr q), μ, rfl, ho.hd, hp, by rw [ht]; exact hP, va_K.moved hW.alike E.2.2.2.2.2.1⟩, hS.F ht⟩) hS.2.2 hd hlk
/-- a method's contract out of its walk -/
theorem xj_met {y : MethodName} {mL d : Nat} {ret : Option FieldType} {as : List XV} {Post : Option XV → Mem → Prop} (hy : plainName y.cls = true) (hI : XI G) (hm : as.length ≤ mL)
    (body : ∀ (p : Program) (e : Env) (s : State) (m : MethodId) (args : Array Value) (below : List Frame) (meth : Method) (c : Code), XE G (xA G) y.cls cc mL p s m args c → meth.sig.returnType = ret → meth.locks = false → XJ G (xA G) mL p l e (xr d) s m args below meth c 0 0 (MQ below (xQ G Post) args s 0 0 (xA G)) 0 (as.map some ++ List.replicate (mL - as.length) none) [] μ) : XMet l G y cc mL ret d as μ Post := by
  intro ho
  refine Met.ofW (cc := cc) (maxL := mL) (ret := ret) hy rfl ?_
  intro p e s m args below meth c s₁ B hml hv
  obtain ⟨rfl, hP, hK⟩ := hv
  have hts := atoms_spec (ws := Cond.code y cc mL ret :: WA) B.pre
  have hE : XE G (xA G) y.cls cc mL p s m (as.map (cv G)).toArray c := ⟨B.exec, B.bytes, hml, findClass_of_methodNamed B.named, fun w hw => hts w (List.mem_cons_of_mem _ hw), hK, hI, fun _ h => h⟩
  rw [entry_eq m (as.map (cv G)) (fun v hv => by obtain ⟨w, -, rfl⟩ := List.mem_map.mp hv; exact cv_cat G w) mL]
  generalize hls : ((as.map (cv G)).map Slot.val ++ List.replicate (mL - (as.map (cv G)).length) Slot.unset).toArray = ls
  have hget : ∀ k : Nat, ls[k]? = ((as.map (cv G)).map Slot.val ++ List.replicate (mL - (as.map (cv G)).length) Slot.unset)[k]? := fun k => by rw [← hls]; simp
  have hcase : ∀ (k : Nat) (x : Slot), ls[k]? = some x → (∃ v, as[k]? = some v ∧ x = .val (cv G v)) ∨ x = .unset := by
    intro k x h
    rw [hget] at h
    by_cases hk : k < as.length
    · rw [List.getElem?_append_left (by simpa using hk)] at h
      simp only [List.getElem?_map] at h
      cases e1 : as[k]? with
      | none => rw [e1] at h; cases h
      | some v => rw [e1] at h; cases h; exact Or.inl ⟨v, rfl, rfl⟩
    · rw [List.getElem?_append_right (by simp; omega)] at h
      exact Or.inr (List.eq_of_mem_replicate (List.mem_of_getElem? h))
  have hlv : xlv G ls mL (as.map some ++ List.replicate (mL - as.length) none) := by
    refine ⟨by rw [← hls]; simp; omega, by simp; omega, ⟨fun i v h h2 => ?_, fun i h => ?_⟩, fun k v h => ?_⟩
    · rcases hcase i _ h with ⟨w, -, hw⟩ | hw
      · cases hw
        rw [cv_cat] at h2
        omega
      · cases hw
    · rcases hcase i _ h with ⟨w, -, hw⟩ | hw <;> cases hw
    · rw [hget]
      by_cases hk : k < as.length
      · rw [List.getElem?_append_left (by simpa using hk)] at h ⊢
        simp only [List.getElem?_map] at h ⊢
        cases e1 : as[k]? with
        | none => rw [e1] at h; cases h
        | some w => rw [e1] at h; simp at h; subst h; rfl
      · rw [List.getElem?_append_right (by simp; omega)] at h
        have := List.eq_of_mem_replicate (List.mem_of_getElem? h)
        cases this
  exact body p e s m _ below meth c hE B.returns B.notSynchronized ls s.heap [] (fun v hv => by cases hv) (fun v hv => by
    rcases List.mem_append.mp hv with h | h
    · obtain ⟨w, hw, e1⟩ := List.mem_map.mp h
      cases e1
      exact ho _ hw
    · have := List.eq_of_mem_replicate h
      cases this) hlv hP va_S.rf
theorem WA_code {y : MethodName} {cc : ByteArray} {mL : Nat} {ret : Option FieldType} (h : Cond.code y cc mL ret ∈ WA) : GoodIn WA (Cond.code y cc mL ret :: WA) := fun w hw => by
  rcases List.mem_cons.mp hw with rfl | hw
  · exact ⟨h, (WA_good _ h).2⟩
  · exact WA_good w hw
theorem xcat (G : XG) (st : List XV) (h : st.length ≤ 8) : ((st.map (cv G)).map fun v => v.category).sum ≤ 8 := by
  have : ((st.map (cv G)).map fun v => v.category) = List.replicate st.length 1 := by
    apply List.ext_getElem?
    intro k
    by_cases hk : k < st.length
    · simp [List.getElem?_map, List.getElem?_eq_getElem hk, cv_cat, List.getElem?_replicate, hk]
    · rw [List.getElem?_eq_none (by simp; omega), List.getElem?_eq_none (by simp; omega)]
  rw [this]
  simp
  exact h
theorem xj_callB {y : MethodName} {cc' : ByteArray} {mL' idx n d' : Nat} {ret' : Option FieldType} (E : XE G A own cc nL p s m args c) (hw : XCw own idx y cc' mL' ret' n) (hR : d' + 1 ≤ R.frames ∧ 40 * d' + 40 ≤ R.locals) : CallB R s args own idx y cc' mL' ret' (Cond.code y cc' mL' ret' :: WA) (xr d') 0 0 n :=
  callB_of n E.2.2.2.2.1 (WA_code hw.2.1) rfl rfl rfl (E.2.2.2.2.1 _ hw.2.2.1) (E.2.2.2.2.1 _ hw.1) hw.2.2.2.1 ⟨hR.1, by have := hw.2.2.2.2; show 8 + (mL' + 11) + 40 * d' ≤ R.locals; omega⟩
theorem xj_blind {as : List XV} : FrameBlind (va_Pc (as.map (cv G)) (fun U => XU G μ U)) := fun a U g mk q => by
  obtain ⟨q0, qP, qK⟩ := q
  exact ⟨q0, qP, va_K.moved (u := U) (U := U.calling g mk a) (Vm.Alike.refl U.vm) qK⟩
/-- behind a call -/
theorem xj_behind {as : List XV} {Post : Option XV → Mem → Prop} {H : Heap} {locs : List Loc} {ls : Array Slot} {stk : List Value} (E : XE G A own cc nL p s m args c) (hr : va_Run p l e R s m args below meth c H locs cs sl 0 0 (F0 m pc ls stk) (st.map (cv G)) (xQ G Post (as.map (cv G)).toArray) (xA G)) (ho : oks st) (hol : okl L) (hl : xlv G ls nL L) (hS : va_S A s.heap H locs) (kk : ∀ r μ', okr r → Post r μ' → XJ G A nL p l e R s m args below meth c cs sl Q (pc + 3) L (r.toList ++ st) μ') : W p l e R s m args below meth c H locs cs sl Q (F0 m pc ls stk) := by
  intro T hT X
  obtain ⟨v, st₀, t, T', L', h0, X', hL, e1, e2, ⟨⟨r, μ', hv, hor, hp, hP', hK'⟩, hz, hk⟩, stp⟩ := hr T hT X
  have hvv : v = r.map (cv G) := by cases hv; rfl
  subst hvv
  rw [h0] at hz hk
  have hS' : va_S A s.heap T'.heap (locs ++ L') := ⟨Nat.le_trans hS.1 (by rw [e1]; exact hz), fun q h1 h2 => by rw [e1, hk q (Nat.lt_of_lt_of_le h1 hS.1) (fun z => h2 (E.2.2.2.2.2.2.2 q z))]; exact hS.2.1 q h1 h2, fun q hq => by
      rcases List.mem_append.mp hq with h | h
      · exact hS.2.2 q h
      · exact E.2.2.2.2.2.2.2 _ (hL q h)⟩
  obtain ⟨t2, a1, b1⟩ := kk r μ' hor hp ls T'.heap (locs ++ L') (fun w hw => by
    rcases List.mem_append.mp hw with h | h
    · cases r with
      | none => cases h
      | some v => simp at h; subst h; exact hor
    · exact ho w h) hol hl (by rw [e1]; exact hP') hS' T' rfl X'
  refine ⟨t2, stp t2 ?_, b1⟩
  have : (r.map (cv G)).toList ++ st.map (cv G) = (r.toList ++ st).map (cv G) := by cases r <;> rfl
  rw [this]
  exact a1
theorem xj_callV {y : MethodName} {cc' : ByteArray} {mL' idx n d' f i : Nat} {ret' : Option FieldType} {as stk : List XV} {Post : Option XV → Mem → Prop} {T : u_T} {N : Nat} (E : XE G A own cc nL p s m args c) (hM : XMet l G y cc' mL' ret' d' (.inr (f, i) :: as) μ Post) (hw : XCw own idx y cc' mL' ret' n) (hv : XCv y) (hk : xkd f = 0 ∧ f ≠ 99) (hcl : vwCl[xci f]? = some (y.cls, T, N)) (hst : stk = as.reverse ++ .inr (f, i) :: st) (hn : as.length = n) (hR : d' + 1 ≤ R.frames ∧ 40 * d' + 40 ≤ R.locals) (hlen : st.length ≤ 8) (hd : decode cc pc = .ok (.invokevirtual idx, 3))
    (hcs : cs + 0 ≤ R.cells ∧ sl + 0 ≤ R.slots) (kk : ∀ r μ', okr r → Post r μ' → XJ G A nL p l e R s m args below meth c cs sl Q (pc + 3) L (r.toList ++ st) μ') : XJ G A nL p l e R s m args below meth c cs sl Q pc L stk μ := by
  subst hst
  intro ls H locs ho hol hl hP hS
  have hoa : oks (.inr (f, i) :: as) := fun v hv => ho v (by
    rcases List.mem_cons.mp hv with rfl | h
    · exact List.mem_append_right _ List.mem_cons_self
    · exact List.mem_append_left _ (List.mem_reverse.mpr h))
  have hos : oks st := fun v hv => ho v (List.mem_append_right _ (List.mem_cons_of_mem _ hv))
  have hi := okv_at hoa.hd hk.2
  have hK := E.2.2.2.2.2.1
  refine xj_behind (as := .inr (f, i) :: as) E (va_runV (nL := nL) (As := as.map (cv G)) (rest := st.map (cv G)) (b := G.2.2.1 f i) ⟨E.1, E.2.1, E.2.2.1, E.2.2.2.1, E.2.2.2.2.1⟩ (hM hoa) ⟨xj_callB E hw hR, E.2.2.2.2.1 _ hv.1, E.2.2.2.2.1 _ hv.2⟩ ⟨xj_blind (as := .inr (f, i) :: as), va_recv (q0 := 0) hK (hP.one hi (xc0 hk.1)) hcl rfl, fun U hU hW => ⟨rfl, by rw [hU]; exact hP, va_K.moved hW.alike hK⟩⟩ rfl (by simpa using hn) hl.1 (by simp [cv]) (lv_room (xcat G st hlen)) hd hcs) hos hol hl hS kk
theorem xj_callS {y : MethodName} {cc' : ByteArray} {mL' idx n d' : Nat} {ret' : Option FieldType} {as stk : List XV} {Post : Option XV → Mem → Prop} (E : XE G A own cc nL p s m args c) (hM : XMet l G y cc' mL' ret' d' as μ Post) (hw : XCw own idx y cc' mL' ret' n) (hv : Cond.static y ∈ WA) (hst : stk = as.reverse ++ st) (hn : as.length = n) (hR : d' + 1 ≤ R.frames ∧ 40 * d' + 40 ≤ R.locals) (hlen : st.length ≤ 8) (hd : decode cc pc = .ok (.invokestatic idx, 3))
    (hcs : cs + 0 ≤ R.cells ∧ sl + 0 ≤ R.slots) (kk : ∀ r μ', okr r → Post r μ' → XJ G A nL p l e R s m args below meth c cs sl Q (pc + 3) L (r.toList ++ st) μ') : XJ G A nL p l e R s m args below meth c cs sl Q pc L stk μ := by
  subst hst
  intro ls H locs ho hol hl hP hS
  have hoa : oks as := fun v hv => ho v (List.mem_append_left _ (List.mem_reverse.mpr hv))
  have hos : oks st := fun v hv => ho v (List.mem_append_right _ hv)
  have hK := E.2.2.2.2.2.1
  refine xj_behind (as := as) E (va_runS (nL := nL) (As := as.map (cv G)) (rest := st.map (cv G)) ⟨E.1, E.2.1, E.2.2.1, E.2.2.2.1, E.2.2.2.2.1⟩ (hM hoa) ⟨xj_callB E hw hR, E.2.2.2.2.1 _ hv⟩ ⟨xj_blind (as := as), fun U hU hW => ⟨rfl, by rw [hU]; exact hP, va_K.moved hW.alike hK⟩⟩ rfl (by simpa using hn) hl.1 (by simp) (lv_room (xcat G st hlen)) hd hcs) hos hol hl hS kk
end XCALLS
end
section
/-! PURE: what the bindings of a row reach, and which pairs of a type and a value lie in the closure -/
section CLO
variable (nb : Nat) (bt : Nat → Nat) (bv : Nat → Int32) (nc : Nat) (ca ct : Nat → Nat) (cw : Nat → Int32)
def clR : Nat → Nat → Prop
  | 0, t => ∃ k, k < nb ∧ bt k = t
  | n + 1, t => clR n t ∨ ∃ k, k < nc ∧ clR n (ca k) ∧ ct k = t
def clReach (t : Nat) : Prop := ∃ n, clR nb bt nc ca ct n t
def clPair (t : Nat) (v : Int32) : Prop := (∃ k, k < nb ∧ bt k = t ∧ bv k = v) ∨ ∃ k, k < nc ∧ clReach nb bt nc ca ct (ca k) ∧ ct k = t ∧ cw k = v
def clConf : Prop := ∃ t v v', clPair nb bt bv nc ca ct cw t v ∧ clPair nb bt bv nc ca ct cw t v' ∧ v ≠ v'
theorem clReach.base {k : Nat} (h : k < nb) : clReach nb bt nc ca ct (bt k) := ⟨0, k, h, rfl⟩
theorem clReach.step {k : Nat} (h : k < nc) (hr : clReach nb bt nc ca ct (ca k)) : clReach nb bt nc ca ct (ct k) := by
  obtain ⟨n, hn⟩ := hr
  exact ⟨n + 1, Or.inr ⟨k, h, hn, rfl⟩⟩
theorem clReach.ind {P : Nat → Prop} (h0 : ∀ k, k < nb → P (bt k)) (h1 : ∀ k, k < nc → P (ca k) → P (ct k)) {t : Nat} (h : clReach nb bt nc ca ct t) : P t := by
  obtain ⟨n, hn⟩ := h
  induction n generalizing t with
  | zero =>
    obtain ⟨k, hk, rfl⟩ := hn
    exact h0 k hk
  | succ n ih =>
    rcases hn with hn | ⟨k, hk, hn, rfl⟩
    · exact ih hn
    · exact h1 k hk (ih hn)
theorem clPair.reach {t : Nat} {v : Int32} (h : clPair nb bt bv nc ca ct cw t v) : clReach nb bt nc ca ct t := by
  rcases h with ⟨k, hk, rfl, -⟩ | ⟨k, hk, hr, rfl, -⟩
  · exact clReach.base nb bt nc ca ct hk
  · exact clReach.step nb bt nc ca ct hk hr
theorem clReach.pair {t : Nat} (h : clReach nb bt nc ca ct t) : ∃ v, clPair nb bt bv nc ca ct cw t v := by
  obtain ⟨n, hn⟩ := h
  induction n generalizing t with
  | zero =>
    obtain ⟨k, hk, rfl⟩ := hn
    exact ⟨bv k, Or.inl ⟨k, hk, rfl, rfl⟩⟩
  | succ n ih =>
    rcases hn with hn | ⟨k, hk, hn, rfl⟩
    · exact ih hn
    · exact ⟨cw k, Or.inr ⟨k, hk, ⟨n, hn⟩, rfl, rfl⟩⟩
end CLO
/-- how many of the first n are 1 -/
def cdn (f : Nat → Int32) : Nat → Nat
  | 0 => 0
  | n + 1 => cdn f n + (if f n = 1 then 1 else 0)
theorem cdn_mono {f g : Nat → Int32} : ∀ {n : Nat}, (∀ t, t < n → f t = 1 → g t = 1) → cdn f n ≤ cdn g n
  | 0, _ => Nat.le_refl _
  | n + 1, h => by
    have ih := cdn_mono (f := f) (g := g) (n := n) (fun t ht => h t (by omega))
    have h1 := h n (by omega)
    unfold cdn
    by_cases e : f n = 1
    · rw [if_pos e, if_pos (h1 e)]; omega
    · rw [if_neg e]; omega
theorem cdn_lt {f g : Nat → Int32} : ∀ {n : Nat}, (∀ t, t < n → f t = 1 → g t = 1) → ∀ {t : Nat}, t < n → g t = 1 → ¬ f t = 1 → cdn f n + 1 ≤ cdn g n
  | 0, _, t, ht, _, _ => by omega
  | n + 1, h, t, ht, hg, hf => by
    unfold cdn
    by_cases e : t = n
    · subst e
      have ih := cdn_mono (f := f) (g := g) (n := t) (fun u hu => h u (by omega))
      rw [if_neg hf, if_pos hg]; omega
    · have ih := cdn_lt (f := f) (g := g) (n := n) (fun u hu => h u (by omega)) (t := t) (by omega) hg hf
      have h1 := h n (by omega)
      by_cases e1 : f n = 1
      · rw [if_pos e1, if_pos (h1 e1)]; omega
      · rw [if_neg e1]; omega
theorem cdn_le {f : Nat → Int32} {m : Nat} : ∀ {n : Nat}, (∀ t, t < n → f t = 1 → t < m) → cdn f n ≤ m ∧ cdn f n ≤ n
  | 0, _ => ⟨Nat.zero_le _, Nat.le_refl _⟩
  | n + 1, h => by
    have ih := cdn_le (f := f) (m := m) (n := n) (fun t ht => h t (by omega))
    have h1 := h n (by omega)
    unfold cdn
    by_cases e : f n = 1
    · rw [if_pos e]
      have := h1 e
      omega
    · rw [if_neg e]; omega
theorem cdn_pos {f : Nat → Int32} : ∀ {n t : Nat}, t < n → f t = 1 → 1 ≤ cdn f n
  | 0, t, ht, _ => by omega
  | n + 1, t, ht, h => by
    unfold cdn
    by_cases e : t = n
    · subst e; rw [if_pos h]; omega
    · have := cdn_pos (f := f) (n := n) (t := t) (by omega) h
      omega
/-- a closure in the making: which types are reached, their values, whether two values met -/
abbrev CS : Type := (Nat → Int32) × (Nat → Int32) × Int32
def pput (t : Nat) (v : Int32) (S : CS) : CS := if S.1 t = 0 then (upd S.1 t 1, upd S.2.1 t v, S.2.2) else if S.2.1 t = v then S else (S.1, S.2.1, 1)
def cCov (S : CS) (t : Nat) (v : Int32) : Prop := S.1 t = 1 ∧ (S.2.1 t = v ∨ S.2.2 = 1)
/-- every flag is 0 or 1 -/
def cBit (S : CS) : Prop := (∀ t, t < 8 → S.1 t = 0 ∨ S.1 t = 1) ∧ (S.2.2 = 0 ∨ S.2.2 = 1)
theorem i1_0 : ¬ (1 : Int32) = 0 := by decide
theorem i0_1 : ¬ (0 : Int32) = 1 := by decide
theorem pput_bit {S : CS} {t : Nat} {v : Int32} (h : cBit S) : cBit (pput t v S) := by
  unfold pput
  split
  · refine ⟨fun u hu => ?_, h.2⟩
    by_cases e : u = t
    · subst e; right; simp [upd]
    · simp only [upd, e, if_false]; exact h.1 u hu
  · split
    · exact h
    · exact ⟨h.1, Or.inr rfl⟩
theorem pput_cov {S : CS} {t : Nat} {v : Int32} (hb : cBit S) (ht : t < 8) : cCov (pput t v S) t v := by
  unfold pput cCov
  split
  · simp [upd]
  · rename_i h
    have h1 : S.1 t = 1 := (hb.1 t ht).resolve_left h
    split
    · rename_i h2; exact ⟨h1, Or.inl h2⟩
    · exact ⟨h1, Or.inr rfl⟩
theorem pput_keep {S : CS} {t u : Nat} {v w : Int32} (h : cCov S u w) : cCov (pput t v S) u w := by
  unfold pput
  split
  · rename_i h0
    have e : u ≠ t := fun q => by subst q; rw [h.1] at h0; exact i1_0 h0
    exact ⟨by simp only [upd, e, if_false]; exact h.1, by simp only [upd, e, if_false]; exact h.2⟩
  · split
    · exact h
    · exact ⟨h.1, Or.inr rfl⟩
theorem pput_grow {S : CS} {t u : Nat} {v : Int32} (h : S.1 u = 1) : (pput t v S).1 u = 1 := by
  unfold pput
  split
  · by_cases e : u = t
    · simp [upd, e]
    · simp only [upd, e, if_false]; exact h
  · split <;> exact h
theorem pput_same {S : CS} {t : Nat} {v : Int32} (h : cCov S t v) : pput t v S = S := by
  unfold pput
  rw [if_neg (by rw [h.1]; exact i1_0)]
  split
  · rfl
  · rename_i h2
    have h3 := h.2.resolve_left h2
    obtain ⟨a, b, d⟩ := S
    simp only at h3
    rw [h3]
section CLO2
variable (nb : Nat) (bt : Nat → Nat) (bv : Nat → Int32) (nc : Nat) (ca ct : Nat → Nat) (cw : Nat → Int32)
/-- nothing is in it that isn't in the closure -/
def cSnd (S : CS) : Prop := cBit S ∧ (∀ t, t < 8 → S.1 t = 1 → clPair nb bt bv nc ca ct cw t (S.2.1 t)) ∧ (S.2.2 = 1 → clConf nb bt bv nc ca ct cw)
theorem cSnd.put {S : CS} {t : Nat} {v : Int32} (h : cSnd nb bt bv nc ca ct cw S) (ht : t < 8) (hp : clPair nb bt bv nc ca ct cw t v) : cSnd nb bt bv nc ca ct cw (pput t v S) := by
  refine ⟨pput_bit h.1, fun u hu h1 => ?_, fun h1 => ?_⟩
  · unfold pput at h1 ⊢
    split at h1
    · rename_i h0
      rw [if_pos h0]
      by_cases e : u = t
      · subst e; simp only [upd, if_true]; exact hp
      · simp only [upd, e, if_false] at h1 ⊢; exact h.2.1 u hu h1
    · rename_i h0
      rw [if_neg h0]
      split at h1
      · rename_i h2; rw [if_pos h2]; exact h.2.1 u hu h1
      · rename_i h2; rw [if_neg h2]; exact h.2.1 u hu h1
  · unfold pput at h1
    split at h1
    · exact h.2.2 h1
    · rename_i h0
      have h2 := (h.1.1 t ht).resolve_left h0
      split at h1
      · exact h.2.2 h1
      · rename_i h3
        exact ⟨t, _, _, h.2.1 t ht h2, hp, h3⟩
/-- the closure, done -/
def clOK (S : CS) : Prop := cBit S ∧ (∀ t, t < 8 → (S.1 t = 1 ↔ clReach nb bt nc ca ct t)) ∧ (∀ t, t < 8 → S.1 t = 1 → clPair nb bt bv nc ca ct cw t (S.2.1 t)) ∧ (S.2.2 = 1 ↔ clConf nb bt bv nc ca ct cw)
def cClosed (S : CS) : Prop := ∀ k, k < nc → S.1 (ca k) = 1 → cCov S (ct k) (cw k)
theorem clOK.of {S : CS} (hs : cSnd nb bt bv nc ca ct cw S) (hb : ∀ k, k < nb → cCov S (bt k) (bv k)) (hc : cClosed nc ca ct cw S) : clOK nb bt bv nc ca ct cw S := by
  have hr : ∀ t, clReach nb bt nc ca ct t → S.1 t = 1 := fun t h => h.ind (P := fun t => S.1 t = 1) nb bt nc ca ct (fun k hk => (hb k hk).1) (fun k hk h => (hc k hk h).1)
  have hp : ∀ t v, clPair nb bt bv nc ca ct cw t v → cCov S t v := by
    intro t v h
    rcases h with ⟨k, hk, rfl, rfl⟩ | ⟨k, hk, h, rfl, rfl⟩
    · exact hb k hk
    · exact hc k hk (hr _ h)
  refine ⟨hs.1, fun t ht => ⟨fun h => (hs.2.1 t ht h).reach, hr t⟩, hs.2.1, hs.2.2, fun ⟨t, v, v', h1, h2, h3⟩ => ?_⟩
  rcases (hp t v h1).2 with h4 | h4
  · rcases (hp t v' h2).2 with h5 | h5
    · exact absurd (h4.symm.trans h5) h3
    · exact h5
  · exact h4
/-- a round's end -/
theorem cRound {S0 S : CS} {r nt : Nat} (hct : ∀ k, k < nc → ca k < 8) (h0 : ∀ t, t < 8 → S0.1 t = 1 → S.1 t = 1) (hk : ∀ k, k < nc → S0.1 (ca k) = 1 → cCov S (ct k) (cw k)) (hs : cClosed nc ca ct cw S0 → S = S0) (hr : cClosed nc ca ct cw S0 ∨ r + 1 ≤ cdn S0.1 8) : cClosed nc ca ct cw S ∨ r + 2 ≤ cdn S.1 8 := by
  rcases hr with hr | hr
  · left; rw [hs hr]; exact hr
  · by_cases e : ∀ t, t < 8 → S.1 t = 1 → S0.1 t = 1
    · left
      exact fun k hk1 h1 => hk k hk1 (e _ (hct k hk1) h1)
    · right
      obtain ⟨t, ht, h1, h2⟩ : ∃ t, t < 8 ∧ S.1 t = 1 ∧ ¬ S0.1 t = 1 := by
        apply Classical.byContradiction
        intro q
        apply e
        intro t ht h1
        apply Classical.byContradiction
        intro h2
        exact q ⟨t, ht, h1, h2⟩
      have := cdn_lt h0 ht h1 h2
      omega
theorem cFirst {S : CS} (hct : ∀ k, k < nc → ca k < 8) : cClosed nc ca ct cw S ∨ 0 + 1 ≤ cdn S.1 8 := by
  by_cases e : ∃ t, t < 8 ∧ S.1 t = 1
  · obtain ⟨t, ht, h⟩ := e
    right; exact cdn_pos ht h
  · left
    exact fun k hk h => absurd ⟨ca k, hct k hk, h⟩ e
theorem cLast {S : CS} {nt : Nat} (hs : cSnd nb bt bv nc ca ct cw S) (hb : ∀ k, k < nb → bt k < nt) (hc : ∀ k, k < nc → ct k < nt) (hr : cClosed nc ca ct cw S ∨ nt + 1 ≤ cdn S.1 8) : cClosed nc ca ct cw S := by
  rcases hr with hr | hr
  · exact hr
  · exfalso
    have := (cdn_le (f := S.1) (m := nt) (n := 8) (fun t ht h => by
      rcases hs.2.1 t ht h with ⟨k, hk, rfl, -⟩ | ⟨k, hk, -, rfl, -⟩
      · exact hb k hk
      · exact hc k hk)).1
    omega
end CLO2
end
section
/-! PURE: the reference's closure, a list of pairs without a pair twice -/
theorem nodup_len {α : Type} [DecidableEq α] : ∀ {l c : List α}, l.Nodup → (∀ x, x ∈ l → x ∈ c) → l.length ≤ c.length
  | [], _, _, _ => Nat.zero_le _
  | a :: l, c, hn, hs => by
    have ha : a ∈ c := hs a List.mem_cons_self
    have hnd := List.nodup_cons.mp hn
    have ih := nodup_len (l := l) (c := c.erase a) hnd.2 (fun x hx => (List.mem_erase_of_ne (fun e : x = a => hnd.1 (by rw [← e]; exact hx))).mpr (hs x (List.mem_cons_of_mem _ hx)))
    have hl := List.length_erase_of_mem ha
    have hp : 0 < c.length := List.length_pos_of_mem ha
    simp only [List.length_cons]
    omega
abbrev PL : Type := List (Nat × Int32)
def mAdd (t : Nat) (v : Int32) (l : PL) : PL := if (t, v) ∈ l then l else l ++ [(t, v)]
theorem mAdd_mem {t : Nat} {v : Int32} {l : PL} : (t, v) ∈ mAdd t v l := by
  unfold mAdd
  split
  · assumption
  · simp
theorem mAdd_keep {t : Nat} {v : Int32} {l : PL} {q : Nat × Int32} (h : q ∈ l) : q ∈ mAdd t v l := by
  unfold mAdd
  split
  · exact h
  · exact List.mem_append_left _ h
theorem mAdd_inv {t : Nat} {v : Int32} {l : PL} {q : Nat × Int32} (h : q ∈ mAdd t v l) : q ∈ l ∨ q = (t, v) := by
  unfold mAdd at h
  split at h
  · exact Or.inl h
  · rcases List.mem_append.mp h with h | h
    · exact Or.inl h
    · exact Or.inr (List.mem_singleton.mp h)
theorem mAdd_nodup {t : Nat} {v : Int32} {l : PL} (h : l.Nodup) : (mAdd t v l).Nodup := by
  unfold mAdd
  split
  · exact h
  · rename_i hn
    refine List.nodup_append.mpr ⟨h, by simp, fun a ha b hb e => ?_⟩
    rw [List.mem_singleton.mp hb] at e
    exact hn (e ▸ ha)
theorem mAdd_at {t : Nat} {v : Int32} {l : PL} {k : Nat} {q : Nat × Int32} (h : l[k]? = some q) : (mAdd t v l)[k]? = some q := by
  unfold mAdd
  split
  · exact h
  · rw [List.getElem?_append_left ((List.getElem?_eq_some_iff.mp h).1)]
    exact h
theorem mAdd_len {t : Nat} {v : Int32} {l : PL} : l.length ≤ (mAdd t v l).length := by
  unfold mAdd
  split
  · exact Nat.le_refl _
  · simp
section MCL
variable (nb : Nat) (bt : Nat → Nat) (bv : Nat → Int32) (nc : Nat) (ca ct : Nat → Nat) (cw : Nat → Int32)
def mCand : PL := (List.range nb).map (fun k => (bt k, bv k)) ++ (List.range nc).map (fun k => (ct k, cw k))
theorem mCand_len : (mCand nb bt bv nc ct cw).length = nb + nc := by simp [mCand]
theorem mCand_b {k : Nat} (h : k < nb) : (bt k, bv k) ∈ mCand nb bt bv nc ct cw := List.mem_append_left _ (List.mem_map.mpr ⟨k, List.mem_range.mpr h, rfl⟩)
theorem mCand_c {k : Nat} (h : k < nc) : (ct k, cw k) ∈ mCand nb bt bv nc ct cw := List.mem_append_right _ (List.mem_map.mpr ⟨k, List.mem_range.mpr h, rfl⟩)
/-- a list in the making -/
def mSnd (l : PL) : Prop := l.Nodup ∧ (∀ q, q ∈ l → clPair nb bt bv nc ca ct cw q.1 q.2) ∧ ∀ q, q ∈ l → q ∈ mCand nb bt bv nc ct cw
theorem mSnd.len {l : PL} (h : mSnd nb bt bv nc ca ct cw l) : l.length ≤ nb + nc := by
  rw [← mCand_len nb bt bv nc ct cw]
  exact nodup_len h.1 h.2.2
theorem mSnd.add {l : PL} {t : Nat} {v : Int32} (h : mSnd nb bt bv nc ca ct cw l) (hp : clPair nb bt bv nc ca ct cw t v) (hc : (t, v) ∈ mCand nb bt bv nc ct cw) : mSnd nb bt bv nc ca ct cw (mAdd t v l) := by
  refine ⟨mAdd_nodup h.1, fun q hq => ?_, fun q hq => ?_⟩
  · rcases mAdd_inv hq with hq | rfl
    · exact h.2.1 q hq
    · exact hp
  · rcases mAdd_inv hq with hq | rfl
    · exact h.2.2 q hq
    · exact hc
/-- there is room for one more, or it is there -/
theorem mSnd.room {l : PL} {t : Nat} {v : Int32} (h : mSnd nb bt bv nc ca ct cw l) (hp : clPair nb bt bv nc ca ct cw t v) (hc : (t, v) ∈ mCand nb bt bv nc ct cw) (hn : ¬ (t, v) ∈ l) : l.length + 1 ≤ nb + nc := by
  have h1 := (h.add nb bt bv nc ca ct cw hp hc).len
  unfold mAdd at h1
  rw [if_neg hn] at h1
  simpa using h1
/-- the list, done -/
def mOK (l : PL) : Prop := l.Nodup ∧ ∀ t v, (t, v) ∈ l ↔ clPair nb bt bv nc ca ct cw t v
theorem mOK.of {l : PL} (h : mSnd nb bt bv nc ca ct cw l) (hb : ∀ k, k < nb → (bt k, bv k) ∈ l) (hc : ∀ q, q ∈ l → ∀ j, j < nc → ca j = q.1 → (ct j, cw j) ∈ l) : mOK nb bt bv nc ca ct cw l := by
  have hr : ∀ t, clReach nb bt nc ca ct t → ∃ v, (t, v) ∈ l := fun t ht => ht.ind (P := fun t => ∃ v, (t, v) ∈ l) nb bt nc ca ct (fun k hk => ⟨_, hb k hk⟩) (fun k hk ⟨v, hv⟩ => ⟨_, hc _ hv k hk rfl⟩)
  refine ⟨h.1, fun t v => ⟨fun hq => h.2.1 _ hq, fun hp => ?_⟩⟩
  rcases hp with ⟨k, hk, rfl, rfl⟩ | ⟨k, hk, hq, rfl, rfl⟩
  · exact hb k hk
  · obtain ⟨w, hw⟩ := hr _ hq
    exact hc _ hw k hk rfl
/-- two of one type -/
theorem mOK.conf {l : PL} (h : mOK nb bt bv nc ca ct cw l) : (∃ j k : Nat, j < k ∧ ∃ p q : Nat × Int32, l[j]? = some p ∧ l[k]? = some q ∧ p.1 = q.1) ↔ clConf nb bt bv nc ca ct cw := by
  constructor
  · rintro ⟨j, k, hjk, ⟨t, v⟩, ⟨t', v'⟩, hp, hq, rfl⟩
    refine ⟨t, v, v', (h.2 _ _).mp (List.mem_of_getElem? hp), (h.2 _ _).mp (List.mem_of_getElem? hq), fun e => ?_⟩
    subst e
    obtain ⟨h1, e1⟩ := List.getElem?_eq_some_iff.mp hp
    obtain ⟨h2, e2⟩ := List.getElem?_eq_some_iff.mp hq
    have := (List.nodup_iff_pairwise_ne.mp h.1)
    have h3 := List.pairwise_iff_getElem.mp this j k h1 h2 hjk
    exact h3 (e1.trans e2.symm)
  · rintro ⟨t, v, v', h1, h2, hne⟩
    obtain ⟨j, hj⟩ := List.getElem?_of_mem ((h.2 _ _).mpr h1)
    obtain ⟨k, hk⟩ := List.getElem?_of_mem ((h.2 _ _).mpr h2)
    have hjk : j ≠ k := fun e => by
      subst e
      rw [hj] at hk
      cases hk
      exact hne rfl
    rcases Nat.lt_or_gt_of_ne hjk with h3 | h3
    · exact ⟨j, k, h3, _, _, hj, hk, rfl⟩
    · exact ⟨k, j, h3, _, _, hk, hj, rfl⟩
end MCL
end
section
/-! the memory of a closure of the class -/
def dS (μ : Mem) (c : Nat) : CS := (μ 17 c, μ 18 c, μ 16 c 2)
def mcl (μ : Mem) (c : Nat) (S : CS) : Mem := fun f i => if f = 17 ∧ i = c then S.1 else if f = 18 ∧ i = c then S.2.1 else if f = 16 ∧ i = c then upd (μ 16 c) 2 S.2.2 else μ f i
theorem mcl_17 (μ : Mem) (c : Nat) (S : CS) : mcl μ c S 17 c = S.1 := by simp [mcl]
theorem mcl_18 (μ : Mem) (c : Nat) (S : CS) : mcl μ c S 18 c = S.2.1 := by simp [mcl]
theorem mcl_16 (μ : Mem) (c : Nat) (S : CS) : mcl μ c S 16 c 2 = S.2.2 := by simp [mcl, upd]
theorem mcl_f {μ : Mem} {c f : Nat} {S : CS} (h : f ≠ 16 ∧ f ≠ 17 ∧ f ≠ 18) : mcl μ c S f = μ f := by
  funext i
  simp [mcl, h.1, h.2.1, h.2.2]
theorem mcl_i {μ : Mem} {c f i : Nat} {S : CS} (h : i ≠ c) : mcl μ c S f i = μ f i := by simp [mcl, h]
theorem upd_upd (f : Nat → Int32) (k : Nat) (x y : Int32) : upd (upd f k x) k y = upd f k y := by
  funext j
  by_cases h : j = k <;> simp [upd, h]
theorem upd_id (f : Nat → Int32) (k : Nat) : upd f k (f k) = f := by
  funext j
  by_cases h : j = k <;> simp [upd, h]
theorem mset_mcl17 (μ : Mem) (c t : Nat) (x : Int32) (S : CS) : mset (mcl μ c S) 17 c t x = mcl μ c (upd S.1 t x, S.2.1, S.2.2) := by
  funext f i
  by_cases h : f = 17 ∧ i = c
  · obtain ⟨rfl, rfl⟩ := h
    rw [mset_same, mcl_17, mcl_17]
  · rw [mset_ne h]
    simp [mcl, h]
theorem mset_mcl18 (μ : Mem) (c t : Nat) (x : Int32) (S : CS) : mset (mcl μ c S) 18 c t x = mcl μ c (S.1, upd S.2.1 t x, S.2.2) := by
  funext f i
  by_cases h : f = 18 ∧ i = c
  · obtain ⟨rfl, rfl⟩ := h
    rw [mset_same, mcl_18, mcl_18]
  · rw [mset_ne h]
    simp [mcl, h]
theorem mset_mcl16 (μ : Mem) (c : Nat) (x : Int32) (S : CS) : mset (mcl μ c S) 16 c 2 x = mcl μ c (S.1, S.2.1, x) := by
  funext f i
  by_cases h : f = 16 ∧ i = c
  · obtain ⟨rfl, rfl⟩ := h
    rw [mset_same]
    simp [mcl, upd_upd]
  · rw [mset_ne h]
    simp [mcl, h]
theorem mcl_dS (μ : Mem) (c : Nat) : mcl μ c (dS μ c) = μ := by
  funext f i
  unfold mcl dS
  by_cases h : f = 17 ∧ i = c
  · obtain ⟨rfl, rfl⟩ := h; simp
  · by_cases h1 : f = 18 ∧ i = c
    · obtain ⟨rfl, rfl⟩ := h1; simp
    · by_cases h2 : f = 16 ∧ i = c
      · obtain ⟨rfl, rfl⟩ := h2; simp [upd_id]
      · rw [if_neg h, if_neg h1, if_neg h2]
theorem mcl_mcl (μ : Mem) (c : Nat) (S S' : CS) : mcl (mcl μ c S) c S' = mcl μ c S' := by
  funext f i
  unfold mcl
  by_cases h : f = 17 ∧ i = c
  · rw [if_pos h, if_pos h]
  · by_cases h1 : f = 18 ∧ i = c
    · rw [if_neg h, if_pos h1, if_neg h, if_pos h1]
    · by_cases h2 : f = 16 ∧ i = c
      · rw [if_neg h, if_neg h1, if_pos h2, if_neg h, if_neg h1, if_pos h2]
        simp [upd_upd]
      · rw [if_neg h, if_neg h1, if_neg h2, if_neg h, if_neg h1, if_neg h2, if_neg h, if_neg h1, if_neg h2]
theorem dS_mcl (μ : Mem) (c : Nat) (S : CS) : dS (mcl μ c S) c = S := by
  unfold dS
  rw [mcl_17, mcl_18, mcl_16]
theorem dS_mcl_ne {μ : Mem} {c c' : Nat} {S : CS} (h : c' ≠ c) : dS (mcl μ c S) c' = dS μ c' := by
  unfold dS
  rw [mcl_i h, mcl_i h, mcl_i h]
theorem mcl_put (μ : Mem) (c t : Nat) (v : Int32) (S : CS) : mcl μ c (pput t v S) = (if S.1 t = 0 then mset (mset (mcl μ c S) 17 c t 1) 18 c t v else if S.2.1 t = v then mcl μ c S else mset (mcl μ c S) 16 c 2 1) := by
  unfold pput
  split
  · rw [mset_mcl17, mset_mcl18]
  · split
    · rfl
    · rw [mset_mcl16]
end
section
/-! PURE: what a chain does. ch: its elements, bh: their behaviours; a state: how many entries the log has, the log, the shared argument, the error on its way -/
abbrev RS : Type := Nat × (Nat → Int32) × Int32 × Int32
def rTh (S : RS) (x : Int32) : RS := (S.1, S.2.1, S.2.2.1, x)
def rSh (S : RS) (x : Int32) : RS := (S.1, S.2.1, x, S.2.2.2)
def rLog (S : RS) (x : Int32) : RS := (S.1 + 1, upd S.2.1 S.1 x, S.2.2.1, S.2.2.2)
/-- one goes on: f is what stands behind it, c its number, o its own argument -/
def rPr (f : Int32 → RS → Int32 × RS) (c o : Int32) (S : RS) : Int32 × RS := f (if c < 16 then S.2.2.1 else o) S
def rP2 (f : Int32 → RS → Int32 × RS) (c o : Int32) (S : RS) : Int32 × RS :=
  if (rPr f c o S).2.2.2.2 = 0 then ((rPr f c o S).1 + (rPr f c o (rPr f c o S).2).1, (rPr f c o (rPr f c o S).2).2) else (0, (rPr f c o S).2)
def rGs (f : Int32 → RS → Int32 × RS) (c m : Int32) (S : RS) : Int32 × RS :=
  if m < 4 then (2 * (rPr f c (S.2.2.1 + 1) (rSh S (S.2.2.1 + 1))).1, (rPr f c (S.2.2.1 + 1) (rSh S (S.2.2.1 + 1))).2) else (0, rTh S 50)
def rPc (f : Int32 → RS → Int32 × RS) (c o : Int32) (S : RS) : Int32 × RS :=
  if (rPr f c o S).2.2.2.2 = 0 then rPr f c o S else if (rPr f c o S).2.2.2.2 = 99 then rPr f c o S else (-(rPr f c o S).2.2.2.2, rTh (rPr f c o S).2 0)
def rBv (f : Int32 → RS → Int32 × RS) (c b m g : Int32) (S : RS) : Int32 × RS :=
  if b = 1 then rP2 f c g S
  else if b = 2 then ((if c < 16 then S.2.2.1 else g), S)
  else if b = 3 then (if c < 16 then rGs f c m S else (2 * (rPr f c (g + 1) S).1, (rPr f c (g + 1) S).2))
  else if b = 4 then (0, rTh S (1 + c))
  else if b = 5 then rPc f c g S
  else rPr f c g S
def rTg (m fl g : Int32) (S : RS) : Int32 × RS := if m < 4 then (if fl = 0 then (3 * g + m, S) else (0, rTh S (33 + m))) else (7, S)
def rn (ch bh : Nat → Int32) (m fl : Int32) : Nat → Nat → Int32 → RS → Int32 × RS
  | 0, _, _, S => (0, S)
  | r + 1, k, g, S =>
    if S.1 < 64 then (if ch k = 32 then rTg m fl g (rLog S (ch k)) else rBv (rn ch bh m fl r (k + 1)) (ch k) (bh k) m g (rLog S (ch k))) else (0, rTh S 99)
/-- the log never grows beyond 64 -/
def rOK (f : Int32 → RS → Int32 × RS) : Prop := ∀ g S, S.1 ≤ 64 → (f g S).2.1 ≤ 64
theorem rPr_le {f : Int32 → RS → Int32 × RS} (hf : rOK f) {c o : Int32} {S : RS} (h : S.1 ≤ 64) : (rPr f c o S).2.1 ≤ 64 := hf _ _ h
theorem rBv_le {f : Int32 → RS → Int32 × RS} (hf : rOK f) {c b m g : Int32} {S : RS} (h : S.1 ≤ 64) : (rBv f c b m g S).2.1 ≤ 64 := by
  unfold rBv
  split
  · unfold rP2
    split
    · exact rPr_le hf (rPr_le hf h)
    · exact rPr_le hf h
  · split
    · exact h
    · split
      · split
        · unfold rGs
          split
          · exact rPr_le hf (S := rSh S (S.2.2.1 + 1)) h
          · exact h
        · exact rPr_le hf h
      · split
        · exact h
        · split
          · unfold rPc
            split
            · exact rPr_le hf h
            · split
              · exact rPr_le hf h
              · exact rPr_le hf h
          · exact rPr_le hf h
theorem rn_le (ch bh : Nat → Int32) (m fl : Int32) : ∀ r k, rOK (rn ch bh m fl r k)
  | 0, _ => fun _ _ h => h
  | r + 1, k => fun g S h => by
    unfold rn
    split
    · rename_i h1
      split
      · unfold rTg
        split
        · split <;> exact h1
        · exact h1
      · exact rBv_le (rn_le ch bh m fl r (k + 1)) (S := rLog S (ch k)) h1
    · exact h
end
section
theorem nI_inc (k : Nat) : nI k + Int32.ofInt 1 = nI (k + 1) := nI_1 k
theorem lt31 {k n : Nat} (h : k ≤ n) (hn : n ≤ 1000) : k < 2 ^ 31 := by omega
theorem cl_nI {k : Nat} (h : k ≤ 1000) : (nI k).toNatClampNeg = k := nI_clamp (by omega)
theorem in_nI {k n : Nat} (h : k < n) (hn : n ≤ 1000) : vp_in (nI k) n := vp_in_nI h (by omega)
theorem ge_nI {a b : Nat} (h : nI a ≤ nI b) (ha : a ≤ 1000) (hb : b ≤ 1000) : a ≤ b := (nI_leI (by omega) (by omega)).mp h
theorem ng_nI {a b : Nat} (h : ¬ nI a ≤ nI b) (ha : a ≤ 1000) (hb : b ≤ 1000) : b < a := Nat.not_le.mp fun q => h ((nI_leI (by omega) (by omega)).mpr q)

theorem in_lt {x : Int32} {n : Nat} (h0 : ¬ x < 0) (h : x < nI n) (hn : n ≤ 1000) : vp_in x n := by
  obtain ⟨j, hj, rfl⟩ := nI_of h0
  exact vp_in_nI ((nI_ltI hj (by omega)).mp h) (by omega)

set_option maxRecDepth 100000 in
set_option maxHeartbeats 4000000 in
/-- X1 isFull -/
theorem k_X1_isFull (l : Launch) (G : XG) (hI : XI G) (b : Nat) (μ : Mem)  : XMet l G y_X1_isFull c_X1_isFull 1 (some .boolean) 0 [.inr (4, b)] μ (fun r μ' => r = some (.inl (if μ 4 b 0 < nI (xln 5 b) then 0 else 1)) ∧ μ' = μ) := by
  refine xj_met (by decide) hI (Nat.le_of_ble_eq_true rfl) ?_
  intro p e s m args below meth c E hr hlk
  have E : XE G (xA G) RX1 c_X1_isFull 1 p s m args c := E
  refine xj_loc (L' := [some (.inr (4, b))]) rfl ?_
  refine xj_aload_n E d_X1_isFull_0 rfl ?_
  refine xj_geti E fl_X1_16 (by decide) rfl (by decide) rfl d_X1_isFull_1 ?_
  refine xj_aload_n E d_X1_isFull_4 rfl ?_
  refine xj_geta E fl_X1_7 (by decide) rfl (by decide) rfl d_X1_isFull_5 ?_
  refine xj_len (n := nI (xln 5 b)) E (by decide) rfl d_X1_isFull_8 ?_
  refine xj_icmp_lt (tgt := 16) E d_X1_isFull_9 (by decide) (fun h9 => ?_) (fun h9 => ?_)
  · refine xj_iconst (v := 0) E d_X1_isFull_16 (by decide) ?_
    exact xj_zret E hr hlk (by decide) d_X1_isFull_17 (by simp [h9])
  refine xj_iconst (v := 1) E d_X1_isFull_12 (by decide) ?_
  refine xj_goto (tgt := 17) E d_X1_isFull_13 (by decide) ?_
  exact xj_zret E hr hlk (by decide) d_X1_isFull_17 (by simp [h9])

set_option maxRecDepth 100000 in
set_option maxHeartbeats 4000000 in
/-- X1 add -/
theorem k_X1_add (l : Launch) (G : XG) (hI : XI G) (b : Nat)  (t v : Int32) (μ : Mem) (h0 : ¬ μ 4 b 0 < 0) : XMet l G y_X1_add c_X1_add 3 none 1 [.inr (4, b), .inl t, .inl v] μ (fun r μ' => r = none ∧ μ' = if μ 4 b 0 < nI (xln 5 b) then mset (mset (mset μ 5 b (μ 4 b 0).toNatClampNeg t) 6 b (μ 4 b 0).toNatClampNeg v) 4 b 0 (μ 4 b 0 + 1) else μ) := by
  refine xj_met (by decide) hI (Nat.le_of_ble_eq_true rfl) ?_
  intro p e s m args below meth c E hr hlk
  have E : XE G (xA G) RX1 c_X1_add 3 p s m args c := E
  refine xj_loc (L' := [some (.inr (4, b)), some (.inl t), some (.inl v)]) rfl ?_
  refine xj_aload_n E d_X1_add_0 rfl ?_
  refine xj_callV E (k_X1_isFull l G hI b μ) cw_X1_20 cv_X1_isFull (by decide) rfl rfl rfl ⟨by decide, by decide⟩ (Nat.le_of_ble_eq_true rfl) d_X1_add_1 ⟨by decide, by decide⟩ (fun r1 μ1 ho1 hp1 => ?_)
  obtain ⟨rfl, rfl⟩ := hp1
  refine xj_st (st' := [.inl (if μ1 4 b 0 < nI (xln 5 b) then 0 else 1)]) rfl ?_
  refine xj_if_eq (tgt := 8) E d_X1_add_4 (by decide) (fun h4 => ?_) (fun h4 => ?_)
  · have hlt : μ1 4 b 0 < nI (xln 5 b) := by
      apply Classical.byContradiction
      intro q
      rw [if_neg q] at h4
      exact i1_0 h4
    have hin : vp_in (μ1 4 b 0) (xln 5 b) := in_lt h0 hlt (by show (if b = 0 then 16 else 4) ≤ 1000; split <;> omega)
    refine xj_aload_n E d_X1_add_8 rfl ?_
    refine xj_geta E fl_X1_7 (by decide) rfl (by decide) rfl d_X1_add_9 ?_
    refine xj_aload_n E d_X1_add_12 rfl ?_
    refine xj_geti E fl_X1_16 (by decide) rfl (by decide) rfl d_X1_add_13 ?_
    refine xj_iload_n E d_X1_add_16 rfl ?_
    refine xj_iast E (by decide) hin d_X1_add_17 ?_
    refine xj_aload_n E d_X1_add_18 rfl ?_
    refine xj_geta E fl_X1_13 (by decide) rfl (by decide) rfl d_X1_add_19 ?_
    refine xj_aload_n E d_X1_add_22 rfl ?_
    refine xj_geti E fl_X1_16 (by decide) rfl (by decide) rfl d_X1_add_23 ?_
    refine xj_iload_n E d_X1_add_26 rfl ?_
    refine xj_iast E (by decide) hin d_X1_add_27 ?_
    refine xj_aload_n E d_X1_add_28 rfl ?_
    refine xj_dup E d_X1_add_29 ?_
    refine xj_geti E fl_X1_16 (by decide) rfl (by decide) rfl d_X1_add_30 ?_
    refine xj_iconst (v := 1) E d_X1_add_33 (by decide) ?_
    refine xj_iadd E d_X1_add_34 ?_
    refine xj_put E fp_X1_16 (by decide) rfl (by decide) rfl (narrow_i _) d_X1_add_35 ?_
    exact xj_vret E hr hlk d_X1_add_38 ⟨rfl, (if_pos hlt).symm⟩
  exact xj_vret E hr hlk d_X1_add_7 ⟨rfl, (if_neg (fun q => h4 (by rw [if_pos q]))).symm⟩
end
section
theorem mcl_put' (μ : Mem) (c t : Nat) (v : Int32) : mcl μ c (pput t v (dS μ c)) = (if μ 17 c t = 0 then mset (mset μ 17 c t 1) 18 c t v else if μ 18 c t = v then μ else mset μ 16 c 2 1) := by
  rw [mcl_put, mcl_dS]
  rfl

set_option maxRecDepth 100000 in
set_option maxHeartbeats 4000000 in
/-- X3 forget -/
theorem k_X3_forget (l : Launch) (G : XG) (hI : XI G) (i : Nat) (μ : Mem)  : XMet l G y_X3_forget c_X3_forget 2 none 0 [.inr (16, i)] μ (fun r μ' => r = none ∧ ∃ S : CS, μ' = mcl μ i S ∧ (∀ t, t < 8 → S.1 t = 0) ∧ S.2.2 = 0) := by
  refine xj_met (by decide) hI (Nat.le_of_ble_eq_true rfl) ?_
  intro p e s m args below meth c E hr hlk
  have E : XE G (xA G) RX3 c_X3_forget 2 p s m args c := E
  refine xj_loc (L' := [some (.inr (16, i)), none]) rfl ?_
  have lp : ∀ (Q : State → Prop) (n k : Nat) (S : CS), 8 - k = n → k ≤ 8 → (∀ t, t < k → S.1 t = 0) → (∀ S' : CS, (∀ t, t < 8 → S'.1 t = 0) → XJ G (xA G) 2 p l e (xr 0) s m args below meth c 0 0 Q 21 [some (.inr (16, i)), some (.inl (nI 8))] [] (mcl μ i S')) → XJ G (xA G) 2 p l e (xr 0) s m args below meth c 0 0 Q 2 [some (.inr (16, i)), some (.inl (nI k))] [] (mcl μ i S) := by
    intro Q n
    induction n using Nat.strongRecOn with
    | _ n ih =>
    intro k S hn hk hinv hx
    refine xj_iload_n E d_X3_forget_2 rfl ?_
    refine xj_bipush (v := 8) E d_X3_forget_3 (by decide) ?_
    refine xj_icmp_ge (tgt := 21) E d_X3_forget_5 (by decide) (fun h5 => ?_) (fun h5 => ?_)
    · have hk8 : k = 8 := by
        have := ge_nI (a := 8) h5 (by omega) (by omega)
        omega
      subst hk8
      exact hx S hinv
    have hlt : k < 8 := ng_nI (a := 8) h5 (by omega) (by omega)
    refine xj_aload_n E d_X3_forget_8 rfl ?_
    refine xj_geta E fl_X3_9 (by decide) rfl (by decide) rfl d_X3_forget_9 ?_
    refine xj_iload_n E d_X3_forget_12 rfl ?_
    refine xj_iconst (v := 0) E d_X3_forget_13 (by decide) ?_
    refine xj_zast E (by decide) (show vp_in (nI k) 8 from in_nI hlt (by omega)) (Or.inl rfl) d_X3_forget_14 ?_
    refine xj_mem (μ' := mcl μ i (upd S.1 k 0, S.2.1, S.2.2)) (by rw [cl_nI (by omega)]; exact mset_mcl17 _ _ _ _ _) ?_
    refine xj_iinc (v := nI (k + 1)) E d_X3_forget_15 rfl (nI_inc k) rfl ?_
    refine xj_goto (tgt := 2) E d_X3_forget_18 (by decide) ?_
    exact ih (8 - (k + 1)) (by omega) (k + 1) _ rfl (by omega) (fun t ht => by
      show upd S.1 k 0 t = 0
      by_cases q : t = k
      · simp [upd, q]
      · simp only [upd, q, if_false]
        exact hinv t (by omega)) hx
  refine xj_iconst (v := 0) E d_X3_forget_0 (by decide) ?_
  refine xj_istore_n E d_X3_forget_1 (by decide) rfl ?_
  refine xj_mem (mcl_dS μ i).symm ?_
  refine lp _ 8 0 (dS μ i) rfl (by omega) (fun t ht => by omega) (fun S' hS' => ?_)
  refine xj_aload_n E d_X3_forget_21 rfl ?_
  refine xj_iconst (v := 0) E d_X3_forget_22 (by decide) ?_
  refine xj_put E fp_X3_19 (by decide) rfl (by decide) rfl (narrow_z (Or.inl rfl)) d_X3_forget_23 ?_
  exact xj_vret E hr hlk d_X3_forget_26 ⟨rfl, (S'.1, S'.2.1, 0), mset_mcl16 _ _ _ _, hS', rfl⟩

set_option maxRecDepth 100000 in
set_option maxHeartbeats 4000000 in
/-- X3 put -/
theorem k_X3_put (l : Launch) (G : XG) (hI : XI G) (i : Nat) (t v : Int32) (μ : Mem) (ht : vp_in t 8) : XMet l G y_X3_put c_X3_put 3 none 0 [.inr (16, i), .inl t, .inl v] μ (fun r μ' => r = none ∧ μ' = mcl μ i (pput t.toNatClampNeg v (dS μ i))) := by
  refine xj_met (by decide) hI (Nat.le_of_ble_eq_true rfl) ?_
  intro p e s m args below meth c E hr hlk
  have E : XE G (xA G) RX3 c_X3_put 3 p s m args c := E
  refine xj_loc (L' := [some (.inr (16, i)), some (.inl t), some (.inl v)]) rfl ?_
  refine xj_aload_n E d_X3_put_0 rfl ?_
  refine xj_geta E fl_X3_9 (by decide) rfl (by decide) rfl d_X3_put_1 ?_
  refine xj_iload_n E d_X3_put_4 rfl ?_
  refine xj_zald E (by decide) ht d_X3_put_5 ?_
  refine xj_if_ne (tgt := 26) E d_X3_put_6 (by decide) (fun h6 => ?_) (fun h6 => ?_)
  · refine xj_aload_n E d_X3_put_26 rfl ?_
    refine xj_geta E fl_X3_15 (by decide) rfl (by decide) rfl d_X3_put_27 ?_
    refine xj_iload_n E d_X3_put_30 rfl ?_
    refine xj_iald E (by decide) ht d_X3_put_31 ?_
    refine xj_iload_n E d_X3_put_32 rfl ?_
    refine xj_icmp_eq (tgt := 41) E d_X3_put_33 (by decide) (fun h33 => ?_) (fun h33 => ?_)
    · exact xj_vret E hr hlk d_X3_put_41 (by first | exact ⟨rfl, by rw [mcl_put', if_pos h6]⟩ | exact ⟨rfl, by rw [mcl_put', if_neg h6, if_pos h33]⟩ | exact ⟨rfl, by rw [mcl_put', if_neg h6, if_neg h33]⟩)
    refine xj_aload_n E d_X3_put_36 rfl ?_
    refine xj_iconst (v := 1) E d_X3_put_37 (by decide) ?_
    refine xj_put E fp_X3_19 (by decide) rfl (by decide) rfl (narrow_z (Or.inr rfl)) d_X3_put_38 ?_
    exact xj_vret E hr hlk d_X3_put_41 (by first | exact ⟨rfl, by rw [mcl_put', if_pos h6]⟩ | exact ⟨rfl, by rw [mcl_put', if_neg h6, if_pos h33]⟩ | exact ⟨rfl, by rw [mcl_put', if_neg h6, if_neg h33]⟩)
  refine xj_aload_n E d_X3_put_9 rfl ?_
  refine xj_geta E fl_X3_9 (by decide) rfl (by decide) rfl d_X3_put_10 ?_
  refine xj_iload_n E d_X3_put_13 rfl ?_
  refine xj_iconst (v := 1) E d_X3_put_14 (by decide) ?_
  refine xj_zast E (by decide) ht (Or.inr rfl) d_X3_put_15 ?_
  refine xj_aload_n E d_X3_put_16 rfl ?_
  refine xj_geta E fl_X3_15 (by decide) rfl (by decide) rfl d_X3_put_17 ?_
  refine xj_iload_n E d_X3_put_20 rfl ?_
  refine xj_iload_n E d_X3_put_21 rfl ?_
  refine xj_iast E (by decide) ht d_X3_put_22 ?_
  refine xj_goto (tgt := 41) E d_X3_put_23 (by decide) ?_
  exact xj_vret E hr hlk d_X3_put_41 (by first | exact ⟨rfl, by rw [mcl_put', if_pos h6]⟩ | exact ⟨rfl, by rw [mcl_put', if_neg h6, if_pos h33]⟩ | exact ⟨rfl, by rw [mcl_put', if_neg h6, if_neg h33]⟩)

/-- the types of R that S0 has not, taken over, up to k -/
def cMrg (R S0 : CS) (k : Nat) (S : CS) : Prop := S.2.2 = S0.2.2 ∧ ∀ t, t < 8 → (t < k ∧ ¬ R.1 t = 0 ∧ S0.1 t = 0 → S.1 t = 1 ∧ S.2.1 t = R.2.1 t) ∧ (¬ (t < k ∧ ¬ R.1 t = 0 ∧ S0.1 t = 0) → S.1 t = S0.1 t ∧ S.2.1 t = S0.2.1 t)
theorem cMrg_0 (R S0 : CS) : cMrg R S0 0 S0 := ⟨rfl, fun t ht => ⟨fun h => by omega, fun _ => ⟨rfl, rfl⟩⟩⟩
theorem cMrg_put {R S0 S : CS} {k : Nat} (hk : k < 8) (h : cMrg R S0 k S) (h1 : ¬ R.1 k = 0) (h2 : S.1 k = 0) : cMrg R S0 (k + 1) (pput k (R.2.1 k) S) := by
  have h0 : S0.1 k = 0 := by
    have := ((h.2 k hk).2 (fun q => by omega)).1
    rw [← this]; exact h2
  unfold pput
  rw [if_pos h2]
  refine ⟨h.1, fun t ht => ?_⟩
  by_cases e : t = k
  · subst e
    refine ⟨fun _ => ?_, fun q => absurd ⟨by omega, h1, h0⟩ q⟩
    simp [upd]
  · have h3 := h.2 t ht
    simp only [upd, e, if_false]
    exact ⟨fun q => h3.1 ⟨by omega, q.2⟩, fun q => h3.2 (fun z => q ⟨by omega, z.2⟩)⟩
theorem cMrg_no {R S0 S : CS} {k : Nat} (hk : k < 8) (h : cMrg R S0 k S) (h1 : R.1 k = 0 ∨ ¬ S.1 k = 0) : cMrg R S0 (k + 1) S := by
  refine ⟨h.1, fun t ht => ?_⟩
  by_cases e : t = k
  · subst e
    have h3 := (h.2 t hk).2 (fun q => by omega)
    refine ⟨fun q => ?_, fun _ => h3⟩
    rcases h1 with h1 | h1
    · exact absurd h1 q.2.1
    · exact absurd (h3.1.trans q.2.2) h1
  · have h3 := h.2 t ht
    exact ⟨fun q => h3.1 ⟨by omega, q.2⟩, fun q => h3.2 (fun z => q ⟨by omega, z.2⟩)⟩

set_option maxRecDepth 100000 in
set_option maxHeartbeats 4000000 in
/-- X3 addMissingTypes -/
theorem k_X3_addMissingTypes (l : Launch) (G : XG) (hI : XI G) (i j : Nat) (μ : Mem) (hij : j ≠ i) : XMet l G y_X3_addMissingTypes c_X3_addMissingTypes 3 none 1 [.inr (16, i), .inr (16, j)] μ (fun r μ' => r = none ∧ ∃ S : CS, μ' = mcl μ i S ∧ cMrg (dS μ j) (dS μ i) 8 S) := by
  refine xj_met (by decide) hI (Nat.le_of_ble_eq_true rfl) ?_
  intro p e s m args below meth c E hr hlk
  have E : XE G (xA G) RX3 c_X3_addMissingTypes 3 p s m args c := E
  refine xj_loc (L' := [some (.inr (16, i)), some (.inr (16, j)), none]) rfl ?_
  have lp : ∀ (Q : State → Prop) (n k : Nat) (S : CS), 8 - k = n → k ≤ 8 → cMrg (dS μ j) (dS μ i) k S → (∀ S' : CS, cMrg (dS μ j) (dS μ i) 8 S' → XJ G (xA G) 3 p l e (xr 1) s m args below meth c 0 0 Q 43 [some (.inr (16, i)), some (.inr (16, j)), some (.inl (nI 8))] [] (mcl μ i S')) → XJ G (xA G) 3 p l e (xr 1) s m args below meth c 0 0 Q 2 [some (.inr (16, i)), some (.inr (16, j)), some (.inl (nI k))] [] (mcl μ i S) := by
    intro Q n
    induction n using Nat.strongRecOn with
    | _ n ih =>
    intro k S hn hk hinv hx
    refine xj_iload_n E d_X3_addMissingTypes_2 rfl ?_
    refine xj_bipush (v := 8) E d_X3_addMissingTypes_3 (by decide) ?_
    refine xj_icmp_ge (tgt := 43) E d_X3_addMissingTypes_5 (by decide) (fun h5 => ?_) (fun h5 => ?_)
    · have hk8 : k = 8 := by
        have := ge_nI (a := 8) h5 (by omega) (by omega)
        omega
      subst hk8
      exact hx S hinv
    have hlt : k < 8 := ng_nI (a := 8) h5 (by omega) (by omega)
    have hin : vp_in (nI k) 8 := in_nI hlt (by omega)
    have hcl : (nI k).toNatClampNeg = k := cl_nI (by omega)
    refine xj_aload_n E d_X3_addMissingTypes_8 rfl ?_
    refine xj_geta E fl_X3_9 (by decide) rfl (by decide) rfl d_X3_addMissingTypes_9 ?_
    refine xj_iload_n E d_X3_addMissingTypes_12 rfl ?_
    refine xj_zald E (by decide) hin d_X3_addMissingTypes_13 ?_
    refine xj_if_eq (tgt := 37) E d_X3_addMissingTypes_14 (by decide) (fun h14 => ?_) (fun h14 => ?_)
    · refine xj_iinc (v := nI (k + 1)) E d_X3_addMissingTypes_37 rfl (nI_inc k) rfl ?_
      refine xj_goto (tgt := 2) E d_X3_addMissingTypes_40 (by decide) ?_
      first
        | exact ih (8 - (k + 1)) (by omega) (k + 1) _ rfl (by omega) (cMrg_put hlt hinv (by rw [hcl, mcl_i hij] at h14; exact h14) (by rw [hcl, mcl_17] at h23; exact h23)) hx
        | exact ih (8 - (k + 1)) (by omega) (k + 1) _ rfl (by omega) (cMrg_no hlt hinv (Or.inr (by rw [hcl, mcl_17] at h23; exact h23))) hx
        | exact ih (8 - (k + 1)) (by omega) (k + 1) _ rfl (by omega) (cMrg_no hlt hinv (Or.inl (by rw [hcl, mcl_i hij] at h14; exact h14))) hx
    refine xj_aload_n E d_X3_addMissingTypes_17 rfl ?_
    refine xj_geta E fl_X3_9 (by decide) rfl (by decide) rfl d_X3_addMissingTypes_18 ?_
    refine xj_iload_n E d_X3_addMissingTypes_21 rfl ?_
    refine xj_zald E (by decide) hin d_X3_addMissingTypes_22 ?_
    refine xj_if_ne (tgt := 37) E d_X3_addMissingTypes_23 (by decide) (fun h23 => ?_) (fun h23 => ?_)
    · refine xj_iinc (v := nI (k + 1)) E d_X3_addMissingTypes_37 rfl (nI_inc k) rfl ?_
      refine xj_goto (tgt := 2) E d_X3_addMissingTypes_40 (by decide) ?_
      first
        | exact ih (8 - (k + 1)) (by omega) (k + 1) _ rfl (by omega) (cMrg_put hlt hinv (by rw [hcl, mcl_i hij] at h14; exact h14) (by rw [hcl, mcl_17] at h23; exact h23)) hx
        | exact ih (8 - (k + 1)) (by omega) (k + 1) _ rfl (by omega) (cMrg_no hlt hinv (Or.inr (by rw [hcl, mcl_17] at h23; exact h23))) hx
        | exact ih (8 - (k + 1)) (by omega) (k + 1) _ rfl (by omega) (cMrg_no hlt hinv (Or.inl (by rw [hcl, mcl_i hij] at h14; exact h14))) hx
    refine xj_aload_n E d_X3_addMissingTypes_26 rfl ?_
    refine xj_iload_n E d_X3_addMissingTypes_27 rfl ?_
    refine xj_aload_n E d_X3_addMissingTypes_28 rfl ?_
    refine xj_geta E fl_X3_15 (by decide) rfl (by decide) rfl d_X3_addMissingTypes_29 ?_
    refine xj_iload_n E d_X3_addMissingTypes_32 rfl ?_
    refine xj_iald E (by decide) hin d_X3_addMissingTypes_33 ?_
    refine xj_callV E (k_X3_put l G hI i (nI k) _ _ hin) cw_X3_23 cv_X3_put (by decide) rfl rfl rfl ⟨by decide, by decide⟩ (Nat.le_of_ble_eq_true rfl) d_X3_addMissingTypes_34 ⟨by decide, by decide⟩ (fun r34 μ34 ho34 hp34 => ?_)
    obtain ⟨rfl, rfl⟩ := hp34
    refine xj_mem (μ' := mcl μ i (pput k (μ 18 j k) S)) (by rw [dS_mcl, mcl_mcl, hcl, mcl_i hij]) ?_
    refine xj_iinc (v := nI (k + 1)) E d_X3_addMissingTypes_37 rfl (nI_inc k) rfl ?_
    refine xj_goto (tgt := 2) E d_X3_addMissingTypes_40 (by decide) ?_
    first
      | exact ih (8 - (k + 1)) (by omega) (k + 1) _ rfl (by omega) (cMrg_put hlt hinv (by rw [hcl, mcl_i hij] at h14; exact h14) (by rw [hcl, mcl_17] at h23; exact h23)) hx
      | exact ih (8 - (k + 1)) (by omega) (k + 1) _ rfl (by omega) (cMrg_no hlt hinv (Or.inr (by rw [hcl, mcl_17] at h23; exact h23))) hx
      | exact ih (8 - (k + 1)) (by omega) (k + 1) _ rfl (by omega) (cMrg_no hlt hinv (Or.inl (by rw [hcl, mcl_i hij] at h14; exact h14))) hx
  refine xj_iconst (v := 0) E d_X3_addMissingTypes_0 (by decide) ?_
  refine xj_istore_n E d_X3_addMissingTypes_1 (by decide) rfl ?_
  refine xj_mem (mcl_dS μ i).symm ?_
  refine lp _ 8 0 (dS μ i) rfl (by omega) (cMrg_0 _ _) (fun S' hS' => ?_)
  exact xj_vret E hr hlk d_X3_addMissingTypes_43 ⟨rfl, S', rfl, hS'⟩

set_option maxRecDepth 100000 in
set_option maxHeartbeats 4000000 in
/-- X3 isAmong -/
theorem k_X3_isAmong (l : Launch) (G : XG) (hI : XI G) (i j : Nat) (μ : Mem)  : XMet l G y_X3_isAmong c_X3_isAmong 3 (some .boolean) 0 [.inr (16, i), .inr (16, j)] μ (fun r μ' => ∃ x : Int32, r = some (.inl x) ∧ (x = 0 ∨ x = 1) ∧ (x = 1 ↔ ∀ t, t < 8 → ¬ μ 17 i t = 0 → ¬ μ 17 j t = 0 ∧ μ 18 j t = μ 18 i t) ∧ μ' = μ) := by
  refine xj_met (by decide) hI (Nat.le_of_ble_eq_true rfl) ?_
  intro p e s m args below meth c E hr hlk
  have E : XE G (xA G) RX3 c_X3_isAmong 3 p s m args c := E
  refine xj_loc (L' := [some (.inr (16, i)), some (.inr (16, j)), none]) rfl ?_
  have lp : ∀ (Q : State → Prop) (n k : Nat), 8 - k = n → k ≤ 8 → (∀ t, t < k → ¬ μ 17 i t = 0 → ¬ μ 17 j t = 0 ∧ μ 18 j t = μ 18 i t) → ((∀ t, t < 8 → ¬ μ 17 i t = 0 → ¬ μ 17 j t = 0 ∧ μ 18 j t = μ 18 i t) → XJ G (xA G) 3 p l e (xr 0) s m args below meth c 0 0 Q 49 [some (.inr (16, i)), some (.inr (16, j)), some (.inl (nI 8))] [] μ) → (∀ k, (¬ ∀ t, t < 8 → ¬ μ 17 i t = 0 → ¬ μ 17 j t = 0 ∧ μ 18 j t = μ 18 i t) → XJ G (xA G) 3 p l e (xr 0) s m args below meth c 0 0 Q 41 [some (.inr (16, i)), some (.inr (16, j)), some (.inl (nI k))] [] μ) → XJ G (xA G) 3 p l e (xr 0) s m args below meth c 0 0 Q 2 [some (.inr (16, i)), some (.inr (16, j)), some (.inl (nI k))] [] μ := by
    intro Q n
    induction n using Nat.strongRecOn with
    | _ n ih =>
    intro k hn hk hinv hx hy
    refine xj_iload_n E d_X3_isAmong_2 rfl ?_
    refine xj_bipush (v := 8) E d_X3_isAmong_3 (by decide) ?_
    refine xj_icmp_ge (tgt := 49) E d_X3_isAmong_5 (by decide) (fun h5 => ?_) (fun h5 => ?_)
    · have hk8 : k = 8 := by
        have := ge_nI (a := 8) h5 (by omega) (by omega)
        omega
      subst hk8
      exact hx hinv
    have hlt : k < 8 := ng_nI (a := 8) h5 (by omega) (by omega)
    have hin : vp_in (nI k) 8 := in_nI hlt (by omega)
    have hcl : (nI k).toNatClampNeg = k := cl_nI (by omega)
    refine xj_aload_n E d_X3_isAmong_8 rfl ?_
    refine xj_geta E fl_X3_9 (by decide) rfl (by decide) rfl d_X3_isAmong_9 ?_
    refine xj_iload_n E d_X3_isAmong_12 rfl ?_
    refine xj_zald E (by decide) hin d_X3_isAmong_13 ?_
    refine xj_if_eq (tgt := 43) E d_X3_isAmong_14 (by decide) (fun h14 => ?_) (fun h14 => ?_)
    · refine xj_iinc (v := nI (k + 1)) E d_X3_isAmong_43 rfl (nI_inc k) rfl ?_
      refine xj_goto (tgt := 2) E d_X3_isAmong_46 (by decide) ?_
      refine ih (8 - (k + 1)) (by omega) (k + 1) rfl (by omega) (fun t ht h1 => ?_) hx hy
      by_cases q : t = k
      · subst q
        rw [hcl] at h14
        first
          | (rw [hcl] at h23 h38; exact ⟨h23, h38⟩)
          | exact absurd h14 h1
      · exact hinv t (by omega) h1
    refine xj_aload_n E d_X3_isAmong_17 rfl ?_
    refine xj_geta E fl_X3_9 (by decide) rfl (by decide) rfl d_X3_isAmong_18 ?_
    refine xj_iload_n E d_X3_isAmong_21 rfl ?_
    refine xj_zald E (by decide) hin d_X3_isAmong_22 ?_
    refine xj_if_eq (tgt := 41) E d_X3_isAmong_23 (by decide) (fun h23 => ?_) (fun h23 => ?_)
    · refine hy k (fun q => ?_)
      rw [hcl] at h14
      first
        | (rw [hcl] at h38; exact h38 (q k hlt h14).2)
        | (rw [hcl] at h23; exact (q k hlt h14).1 h23)
    refine xj_aload_n E d_X3_isAmong_26 rfl ?_
    refine xj_geta E fl_X3_15 (by decide) rfl (by decide) rfl d_X3_isAmong_27 ?_
    refine xj_iload_n E d_X3_isAmong_30 rfl ?_
    refine xj_iald E (by decide) hin d_X3_isAmong_31 ?_
    refine xj_aload_n E d_X3_isAmong_32 rfl ?_
    refine xj_geta E fl_X3_15 (by decide) rfl (by decide) rfl d_X3_isAmong_33 ?_
    refine xj_iload_n E d_X3_isAmong_36 rfl ?_
    refine xj_iald E (by decide) hin d_X3_isAmong_37 ?_
    refine xj_icmp_eq (tgt := 43) E d_X3_isAmong_38 (by decide) (fun h38 => ?_) (fun h38 => ?_)
    · refine xj_iinc (v := nI (k + 1)) E d_X3_isAmong_43 rfl (nI_inc k) rfl ?_
      refine xj_goto (tgt := 2) E d_X3_isAmong_46 (by decide) ?_
      refine ih (8 - (k + 1)) (by omega) (k + 1) rfl (by omega) (fun t ht h1 => ?_) hx hy
      by_cases q : t = k
      · subst q
        rw [hcl] at h14
        first
          | (rw [hcl] at h23 h38; exact ⟨h23, h38⟩)
          | exact absurd h14 h1
      · exact hinv t (by omega) h1
    refine hy k (fun q => ?_)
    rw [hcl] at h14
    first
      | (rw [hcl] at h38; exact h38 (q k hlt h14).2)
      | (rw [hcl] at h23; exact (q k hlt h14).1 h23)
  refine xj_iconst (v := 0) E d_X3_isAmong_0 (by decide) ?_
  refine xj_istore_n E d_X3_isAmong_1 (by decide) rfl ?_
  refine lp _ 8 0 rfl (by omega) (fun t ht => by omega) (fun hq => ?_) (fun k hq => ?_)
  · refine xj_iconst (v := 1) E d_X3_isAmong_49 (by decide) ?_
    exact xj_zret E hr hlk (Or.inr rfl) d_X3_isAmong_50 ⟨1, rfl, Or.inr rfl, ⟨fun _ => hq, fun _ => rfl⟩, rfl⟩
  · refine xj_iconst (v := 0) E d_X3_isAmong_41 (by decide) ?_
    exact xj_zret E hr hlk (Or.inl rfl) d_X3_isAmong_42 ⟨0, rfl, Or.inl rfl, ⟨fun q => absurd q i0_1, fun q => absurd q hq⟩, rfl⟩
end
section
section CLO3
variable (nb : Nat) (bt : Nat → Nat) (bv : Nat → Int32) (nc : Nat) (ca ct : Nat → Nat) (cw : Nat → Int32)
def cBase (k : Nat) (S : CS) : Prop := cSnd nb bt bv nc ca ct cw S ∧ ∀ k', k' < k → cCov S (bt k') (bv k')
def cIn (S0 : CS) (k : Nat) (S : CS) : Prop := cSnd nb bt bv nc ca ct cw S ∧ (∀ k', k' < nb → cCov S (bt k') (bv k')) ∧ (∀ t, t < 8 → S0.1 t = 1 → S.1 t = 1) ∧ (∀ k', k' < k → S0.1 (ca k') = 1 → cCov S (ct k') (cw k')) ∧ (cClosed nc ca ct cw S0 → S = S0)
def cOut (r : Nat) (S : CS) : Prop := cSnd nb bt bv nc ca ct cw S ∧ (∀ k', k' < nb → cCov S (bt k') (bv k')) ∧ (cClosed nc ca ct cw S ∨ r + 1 ≤ cdn S.1 8)
variable {nb bt bv nc ca ct cw}
theorem cBase_0 {S : CS} (h0 : ∀ t, t < 8 → S.1 t = 0) (h1 : S.2.2 = 0) : cBase nb bt bv nc ca ct cw 0 S := by
  refine ⟨⟨⟨fun t ht => Or.inl (h0 t ht), Or.inl h1⟩, fun t ht q => ?_, fun q => ?_⟩, fun k hk => by omega⟩
  · rw [h0 t ht] at q; exact absurd q i0_1
  · rw [h1] at q; exact absurd q i0_1
theorem cBase_put {S : CS} {k : Nat} (hk : k < nb) (ht : bt k < 8) (h : cBase nb bt bv nc ca ct cw k S) : cBase nb bt bv nc ca ct cw (k + 1) (pput (bt k) (bv k) S) := by
  refine ⟨h.1.put _ _ _ _ _ _ _ ht (Or.inl ⟨k, hk, rfl, rfl⟩), fun k' hk' => ?_⟩
  by_cases q : k' = k
  · subst q; exact pput_cov h.1.1 ht
  · exact pput_keep (h.2 k' (by omega))
theorem cOut_0 {S : CS} (hca : ∀ k, k < nc → ca k < 8) (h : cBase nb bt bv nc ca ct cw nb S) : cOut nb bt bv nc ca ct cw 0 S := ⟨h.1, h.2, cFirst _ _ _ _ hca⟩
theorem cOut_in {S : CS} {r : Nat} (h : cOut nb bt bv nc ca ct cw r S) : cIn nb bt bv nc ca ct cw S 0 S := ⟨h.1, h.2.1, fun _ _ q => q, fun k hk => by omega, fun _ => rfl⟩
theorem cIn_put {S0 S : CS} {k : Nat} (hk : k < nc) (hca : ca k < 8) (hct : ct k < 8) (h : cIn nb bt bv nc ca ct cw S0 k S) (h1 : ¬ S.1 (ca k) = 0) : cIn nb bt bv nc ca ct cw S0 (k + 1) (pput (ct k) (cw k) S) := by
  have h2 : S.1 (ca k) = 1 := (h.1.1.1 _ hca).resolve_left h1
  have hp : clPair nb bt bv nc ca ct cw (ct k) (cw k) := Or.inr ⟨k, hk, (h.1.2.1 _ hca h2).reach, rfl, rfl⟩
  refine ⟨h.1.put _ _ _ _ _ _ _ hct hp, fun k' hk' => pput_keep (h.2.1 k' hk'), fun t ht q => pput_grow (h.2.2.1 t ht q), fun k' hk' q => ?_, fun q => ?_⟩
  · by_cases e : k' = k
    · subst e; exact pput_cov h.1.1 hct
    · exact pput_keep (h.2.2.2.1 k' (by omega) q)
  · have e := h.2.2.2.2 q
    subst e
    exact pput_same (q k hk h2)
theorem cIn_no {S0 S : CS} {k : Nat} (hca : ca k < 8) (h : cIn nb bt bv nc ca ct cw S0 k S) (h1 : S.1 (ca k) = 0) : cIn nb bt bv nc ca ct cw S0 (k + 1) S := by
  refine ⟨h.1, h.2.1, h.2.2.1, fun k' hk' q => ?_, h.2.2.2.2⟩
  by_cases e : k' = k
  · subst e
    have := h.2.2.1 _ hca q
    rw [h1] at this
    exact absurd this i0_1
  · exact h.2.2.2.1 k' (by omega) q
theorem cOut_next {S0 S : CS} {r : Nat} (hca : ∀ k, k < nc → ca k < 8) (h0 : cOut nb bt bv nc ca ct cw r S0) (h : cIn nb bt bv nc ca ct cw S0 nc S) : cOut nb bt bv nc ca ct cw (r + 1) S :=
  ⟨h.1, h.2.1, cRound (nt := 0) _ _ _ _ hca h.2.2.1 h.2.2.2.1 h.2.2.2.2 h0.2.2⟩
theorem cOut_end {S : CS} {nt : Nat} (hb : ∀ k, k < nb → bt k < nt) (hc : ∀ k, k < nc → ct k < nt) (h : cOut nb bt bv nc ca ct cw nt S) : clOK nb bt bv nc ca ct cw S := clOK.of _ _ _ _ _ _ _ h.1 h.2.1 (cLast _ _ _ _ _ _ _ h.1 hb hc h.2.2)
end CLO3
/-! the rows of bindings of the class, as data -/
def xnb (μ : Mem) (b : Nat) : Nat := (μ 4 b 0).toNatClampNeg
def xbt (μ : Mem) (b k : Nat) : Nat := (μ 5 b k).toNatClampNeg
def xbv (μ : Mem) (b k : Nat) : Int32 := μ 6 b k
def xca (μ : Mem) (k : Nat) : Nat := (μ 3 0 k).toNatClampNeg
abbrev xPair (μ : Mem) (b : Nat) : Nat → Int32 → Prop := clPair (xnb μ b) (xbt μ b) (xbv μ b) (xnb μ 0) (xca μ) (xbt μ 0) (xbv μ 0)
abbrev xReach (μ : Mem) (b : Nat) : Nat → Prop := clReach (xnb μ b) (xbt μ b) (xnb μ 0) (xca μ) (xbt μ 0)
abbrev xConf (μ : Mem) (b : Nat) : Prop := clConf (xnb μ b) (xbt μ b) (xbv μ b) (xnb μ 0) (xca μ) (xbt μ 0) (xbv μ 0)
abbrev xClOK (μ : Mem) (b : Nat) (S : CS) : Prop := clOK (xnb μ b) (xbt μ b) (xbv μ b) (xnb μ 0) (xca μ) (xbt μ 0) (xbv μ 0) S
/-- a row is as it must be: its count, its types -/
def xRow (μ : Mem) (b nt : Nat) : Prop := (∃ n, n ≤ xln 5 b ∧ μ 4 b 0 = nI n) ∧ ∀ k, k < xnb μ b → ∃ t, t < nt ∧ μ 5 b k = nI t
def xTyp (μ : Mem) (nt : Nat) : Prop := nt ≤ 8 ∧ μ 1 0 0 = nI nt ∧ xRow μ 0 nt ∧ ∀ k, k < xnb μ 0 → ∃ t, t < nt ∧ μ 3 0 k = nI t
theorem xln5 (b : Nat) : xln 5 b ≤ 16 := by
  show (if b = 0 then 16 else 4) ≤ 16
  split <;> omega
theorem xRow.cnt {μ : Mem} {b nt : Nat} (h : xRow μ b nt) : μ 4 b 0 = nI (xnb μ b) ∧ xnb μ b ≤ xln 5 b := by
  obtain ⟨⟨n, hn, e⟩, -⟩ := h
  have h5 := xln5 b
  have : xnb μ b = n := by
    unfold xnb
    rw [e]
    exact cl_nI (by omega)
  rw [this]
  exact ⟨e, hn⟩
theorem xRow.typ {μ : Mem} {b nt k : Nat} (h : xRow μ b nt) (ht : nt ≤ 8) (hk : k < xnb μ b) : vp_in (μ 5 b k) 8 ∧ xbt μ b k < nt := by
  obtain ⟨t, h1, h2⟩ := h.2 k hk
  unfold xbt
  rw [h2, cl_nI (by omega)]
  exact ⟨in_nI (by omega) (by omega), h1⟩
theorem xTyp.car {μ : Mem} {nt k : Nat} (h : xTyp μ nt) (hk : k < xnb μ 0) : vp_in (μ 3 0 k) 8 ∧ xca μ k < nt := by
  obtain ⟨t, h1, h2⟩ := h.2.2.2 k hk
  have := h.1
  unfold xca
  rw [h2, cl_nI (by omega)]
  exact ⟨in_nI (by omega) (by omega), h1⟩
theorem xj_forget {G : XG} {A : Nat → Prop} {nL : Nat} {p : Program} {l : Launch} {e : Env} {R : Room} {s : State} {m : MethodId} {args : Array Value} {below : List Frame} {meth : Method} {c : Code} {cs sl : Nat} {Q : State → Prop} {pc : Nat} {L : List (Option XV)} {st : List XV} {μ : Mem} (j : Nat) (kk : XJ G A nL p l e R s m args below meth c cs sl Q pc (L.set j none) st μ) : XJ G A nL p l e R s m args below meth c cs sl Q pc L st μ :=
  xj_less (List.length_set ..) (fun k v h => by
    by_cases q : j = k
    · subst q
      by_cases hl : j < L.length
      · rw [List.getElem?_set_self hl] at h; cases h
      · rw [List.getElem?_eq_none (by simp; omega)] at h; cases h
    · rw [List.getElem?_set_ne q] at h; exact h) kk

set_option maxRecDepth 100000 in
set_option maxHeartbeats 4000000 in
/-- X0 forget -/
theorem k_X0_forget (l : Launch) (G : XG) (hI : XI G)  (μ : Mem)  : XMet l G y_X0_forget c_X0_forget 1 none 0 [.inr (1, 0)] μ (fun r μ' => r = none ∧ μ' = mset (mset μ 1 0 0 0) 4 0 0 0) := by
  refine xj_met (by decide) hI (Nat.le_of_ble_eq_true rfl) ?_
  intro p e s m args below meth c E hr hlk
  have E : XE G (xA G) RX0 c_X0_forget 1 p s m args c := E
  refine xj_loc (L' := [some (.inr (1, 0))]) rfl ?_
  refine xj_aload_n E d_X0_forget_0 rfl ?_
  refine xj_iconst (v := 0) E d_X0_forget_1 (by decide) ?_
  refine xj_put E fp_X0_28 (by decide) rfl (by decide) rfl (narrow_i _) d_X0_forget_2 ?_
  refine xj_aload_n E d_X0_forget_5 rfl ?_
  refine xj_geta E fl_X0_24 (by decide) rfl (by decide) rfl d_X0_forget_6 ?_
  refine xj_iconst (v := 0) E d_X0_forget_9 (by decide) ?_
  refine xj_put E fp_X0_32 (by decide) rfl (by decide) rfl (narrow_i _) d_X0_forget_10 ?_
  exact xj_vret E hr hlk d_X0_forget_13 ⟨rfl, rfl⟩

set_option maxRecDepth 100000 in
set_option maxHeartbeats 4000000 in
/-- X0 has -/
theorem k_X0_has (l : Launch) (G : XG) (hI : XI G) (x : Int32) (μ : Mem)  : XMet l G y_X0_has c_X0_has 2 (some .boolean) 0 [.inr (1, 0), .inl x] μ (fun r μ' => r = some (.inl (if x < 0 then 0 else if μ 1 0 0 ≤ x then 0 else 1)) ∧ μ' = μ) := by
  refine xj_met (by decide) hI (Nat.le_of_ble_eq_true rfl) ?_
  intro p e s m args below meth c E hr hlk
  have E : XE G (xA G) RX0 c_X0_has 2 p s m args c := E
  refine xj_loc (L' := [some (.inr (1, 0)), some (.inl x)]) rfl ?_
  refine xj_iload_n E d_X0_has_0 rfl ?_
  refine xj_if_lt (tgt := 16) E d_X0_has_1 (by decide) (fun h1 => ?_) (fun h1 => ?_)
  · refine xj_iconst (v := 0) E d_X0_has_16 (by decide) ?_
    exact xj_zret E hr hlk (by decide) d_X0_has_17 (by first | exact ⟨by rw [if_pos h1], rfl⟩ | exact ⟨by rw [if_neg h1, if_pos h9], rfl⟩ | exact ⟨by rw [if_neg h1, if_neg h9], rfl⟩)
  refine xj_iload_n E d_X0_has_4 rfl ?_
  refine xj_aload_n E d_X0_has_5 rfl ?_
  refine xj_geti E fl_X0_28 (by decide) rfl (by decide) rfl d_X0_has_6 ?_
  refine xj_icmp_ge (tgt := 16) E d_X0_has_9 (by decide) (fun h9 => ?_) (fun h9 => ?_)
  · refine xj_iconst (v := 0) E d_X0_has_16 (by decide) ?_
    exact xj_zret E hr hlk (by decide) d_X0_has_17 (by first | exact ⟨by rw [if_pos h1], rfl⟩ | exact ⟨by rw [if_neg h1, if_pos h9], rfl⟩ | exact ⟨by rw [if_neg h1, if_neg h9], rfl⟩)
  refine xj_iconst (v := 1) E d_X0_has_12 (by decide) ?_
  refine xj_goto (tgt := 17) E d_X0_has_13 (by decide) ?_
  exact xj_zret E hr hlk (by decide) d_X0_has_17 (by first | exact ⟨by rw [if_pos h1], rfl⟩ | exact ⟨by rw [if_neg h1, if_pos h9], rfl⟩ | exact ⟨by rw [if_neg h1, if_neg h9], rfl⟩)

set_option maxRecDepth 100000 in
set_option maxHeartbeats 4000000 in
/-- X0 declare -/
theorem k_X0_declare (l : Launch) (G : XG) (hI : XI G) (z : Int32) (μ : Mem) (hz : z = 0 ∨ z = 1) (hc : vp_in (μ 1 0 0) 8) : XMet l G y_X0_declare c_X0_declare 2 (some .int) 0 [.inr (1, 0), .inl z] μ (fun r μ' => r = some (.inl (μ 1 0 0 + 1 - 1)) ∧ μ' = mset (mset μ 2 0 (μ 1 0 0).toNatClampNeg z) 1 0 0 (μ 1 0 0 + 1)) := by
  refine xj_met (by decide) hI (Nat.le_of_ble_eq_true rfl) ?_
  intro p e s m args below meth c E hr hlk
  have E : XE G (xA G) RX0 c_X0_declare 2 p s m args c := E
  refine xj_loc (L' := [some (.inr (1, 0)), some (.inl z)]) rfl ?_
  refine xj_aload_n E d_X0_declare_0 rfl ?_
  refine xj_geta E fl_X0_9 (by decide) rfl (by decide) rfl d_X0_declare_1 ?_
  refine xj_aload_n E d_X0_declare_4 rfl ?_
  refine xj_geti E fl_X0_28 (by decide) rfl (by decide) rfl d_X0_declare_5 ?_
  refine xj_iload_n E d_X0_declare_8 rfl ?_
  refine xj_zast E (by decide) hc hz d_X0_declare_9 ?_
  refine xj_aload_n E d_X0_declare_10 rfl ?_
  refine xj_dup E d_X0_declare_11 ?_
  refine xj_geti E fl_X0_28 (by decide) rfl (by decide) rfl d_X0_declare_12 ?_
  refine xj_iconst (v := 1) E d_X0_declare_15 (by decide) ?_
  refine xj_iadd E d_X0_declare_16 ?_
  refine xj_put E fp_X0_28 (by decide) rfl (by decide) rfl (narrow_i _) d_X0_declare_17 ?_
  refine xj_aload_n E d_X0_declare_20 rfl ?_
  refine xj_geti E fl_X0_28 (by decide) rfl (by decide) rfl d_X0_declare_21 ?_
  refine xj_iconst (v := 1) E d_X0_declare_24 (by decide) ?_
  refine xj_isub E d_X0_declare_25 ?_
  exact xj_iret E hr hlk d_X0_declare_26 ⟨rfl, rfl⟩

set_option maxRecDepth 100000 in
set_option maxHeartbeats 4000000 in
/-- X0 valueThatMatters -/
theorem k_X0_valueThatMatters (l : Launch) (G : XG) (hI : XI G) (t v : Int32) (μ : Mem) (ht : vp_in t 8) : XMet l G y_X0_valueThatMatters c_X0_valueThatMatters 3 (some .int) 0 [.inr (1, 0), .inl t, .inl v] μ (fun r μ' => r = some (.inl (if μ 2 0 t.toNatClampNeg = 0 then 0 else v)) ∧ μ' = μ) := by
  refine xj_met (by decide) hI (Nat.le_of_ble_eq_true rfl) ?_
  intro p e s m args below meth c E hr hlk
  have E : XE G (xA G) RX0 c_X0_valueThatMatters 3 p s m args c := E
  refine xj_loc (L' := [some (.inr (1, 0)), some (.inl t), some (.inl v)]) rfl ?_
  refine xj_aload_n E d_X0_valueThatMatters_0 rfl ?_
  refine xj_geta E fl_X0_9 (by decide) rfl (by decide) rfl d_X0_valueThatMatters_1 ?_
  refine xj_iload_n E d_X0_valueThatMatters_4 rfl ?_
  refine xj_zald E (by decide) ht d_X0_valueThatMatters_5 ?_
  refine xj_if_eq (tgt := 13) E d_X0_valueThatMatters_6 (by decide) (fun h6 => ?_) (fun h6 => ?_)
  · refine xj_iconst (v := 0) E d_X0_valueThatMatters_13 (by decide) ?_
    exact xj_iret E hr hlk d_X0_valueThatMatters_14 (by first | exact ⟨by rw [if_pos h6], rfl⟩ | exact ⟨by rw [if_neg h6], rfl⟩)
  refine xj_iload_n E d_X0_valueThatMatters_9 rfl ?_
  refine xj_goto (tgt := 14) E d_X0_valueThatMatters_10 (by decide) ?_
  exact xj_iret E hr hlk d_X0_valueThatMatters_14 (by first | exact ⟨by rw [if_pos h6], rfl⟩ | exact ⟨by rw [if_neg h6], rfl⟩)

set_option maxRecDepth 100000 in
set_option maxHeartbeats 4000000 in
/-- X0 addCarried -/
theorem k_X0_addCarried (l : Launch) (G : XG) (hI : XI G) (a t v : Int32) (μ : Mem) (ht : vp_in t 8) (hc : vp_in (μ 4 0 0) 16) (hlt : μ 4 0 0 < nI 16) : XMet l G y_X0_addCarried c_X0_addCarried 4 none 2 [.inr (1, 0), .inl a, .inl t, .inl v] μ (fun r μ' => r = none ∧ μ' = mset (mset (mset (mset μ 3 0 (μ 4 0 0).toNatClampNeg a) 5 0 (μ 4 0 0).toNatClampNeg t) 6 0 (μ 4 0 0).toNatClampNeg (if μ 2 0 t.toNatClampNeg = 0 then 0 else v)) 4 0 0 (μ 4 0 0 + 1)) := by
  refine xj_met (by decide) hI (Nat.le_of_ble_eq_true rfl) ?_
  intro p e s m args below meth c E hr hlk
  have E : XE G (xA G) RX0 c_X0_addCarried 4 p s m args c := E
  refine xj_loc (L' := [some (.inr (1, 0)), some (.inl a), some (.inl t), some (.inl v)]) rfl ?_
  refine xj_aload_n E d_X0_addCarried_0 rfl ?_
  refine xj_geta E fl_X0_15 (by decide) rfl (by decide) rfl d_X0_addCarried_1 ?_
  refine xj_aload_n E d_X0_addCarried_4 rfl ?_
  refine xj_geta E fl_X0_24 (by decide) rfl (by decide) rfl d_X0_addCarried_5 ?_
  refine xj_geti E fl_X0_32 (by decide) rfl (by decide) rfl d_X0_addCarried_8 ?_
  refine xj_iload_n E d_X0_addCarried_11 rfl ?_
  refine xj_iast E (by decide) hc d_X0_addCarried_12 ?_
  refine xj_aload_n E d_X0_addCarried_13 rfl ?_
  refine xj_geta E fl_X0_24 (by decide) rfl (by decide) rfl d_X0_addCarried_14 ?_
  refine xj_iload_n E d_X0_addCarried_17 rfl ?_
  refine xj_aload_n E d_X0_addCarried_18 rfl ?_
  refine xj_iload_n E d_X0_addCarried_19 rfl ?_
  refine xj_iload_n E d_X0_addCarried_20 rfl ?_
  refine xj_callV E (k_X0_valueThatMatters l G hI t v _ ht) cw_X0_33 cv_X0_valueThatMatters (by decide) rfl rfl rfl ⟨by decide, by decide⟩ (Nat.le_of_ble_eq_true rfl) d_X0_addCarried_21 ⟨by decide, by decide⟩ (fun r21 μ21 ho21 hp21 => ?_)
  obtain ⟨rfl, rfl⟩ := hp21
  refine xj_callV E (k_X1_add l G hI 0 t _ _ (fun q => hc (Or.inl q))) cw_X0_37 cv_X1_add (by decide) rfl rfl rfl ⟨by decide, by decide⟩ (Nat.le_of_ble_eq_true rfl) d_X0_addCarried_24 ⟨by decide, by decide⟩ (fun r24 μ24 ho24 hp24 => ?_)
  obtain ⟨rfl, rfl⟩ := hp24
  exact xj_vret E hr hlk d_X0_addCarried_27 ⟨rfl, if_pos hlt⟩

set_option maxRecDepth 100000 in
set_option maxHeartbeats 4000000 in
/-- X0 close -/
theorem k_X0_close (l : Launch) (G : XG) (hI : XI G) (b i nt : Nat) (μ : Mem) (hT : xTyp μ nt) (hR : xRow μ b nt) : XMet l G y_X0_close c_X0_close 5 none 1 [.inr (1, 0), .inr (4, b), .inr (16, i)] μ (fun r μ' => r = none ∧ ∃ S : CS, μ' = mcl μ i S ∧ xClOK μ b S) := by
  refine xj_met (by decide) hI (Nat.le_of_ble_eq_true rfl) ?_
  intro p e s m args below meth c E hr hlk
  have E : XE G (xA G) RX0 c_X0_close 5 p s m args c := E
  refine xj_loc (L' := [some (.inr (1, 0)), some (.inr (4, b)), some (.inr (16, i)), none, none]) rfl ?_
  have hnt := hT.1
  have hb := hR.cnt
  have hc := hT.2.2.1.cnt
  have hb5 := xln5 b
  have hc5 : xnb μ 0 ≤ 16 := hc.2
  have lp3 : ∀ (Q : State → Prop) (S0 : CS) (r n k : Nat) (S : CS), xnb μ 0 - k = n → k ≤ xnb μ 0 → cIn (xnb μ b) (xbt μ b) (xbv μ b) (xnb μ 0) (xca μ) (xbt μ 0) (xbv μ 0) S0 k S → (∀ (k : Nat) (S' : CS), cIn (xnb μ b) (xbt μ b) (xbv μ b) (xnb μ 0) (xca μ) (xbt μ 0) (xbv μ 0) S0 (xnb μ 0) S' → XJ G (xA G) 5 p l e (xr 1) s m args below meth c 0 0 Q 106 [some (.inr (1, 0)), some (.inr (4, b)), some (.inr (16, i)), some (.inl (nI r)), some (.inl (nI k))] [] (mcl μ i S')) → XJ G (xA G) 5 p l e (xr 1) s m args below meth c 0 0 Q 49 [some (.inr (1, 0)), some (.inr (4, b)), some (.inr (16, i)), some (.inl (nI r)), some (.inl (nI k))] [] (mcl μ i S) := by
    intro Q S0 r n
    induction n using Nat.strongRecOn with
    | _ n ih =>
    intro k S hn hk hinv hx
    refine xj_iload E d_X0_close_49 rfl ?_
    refine xj_aload_n E d_X0_close_51 rfl ?_
    refine xj_geta E fl_X0_24 (by decide) rfl (by decide) rfl d_X0_close_52 ?_
    refine xj_geti E fl_X0_32 (by decide) rfl (by decide) rfl d_X0_close_55 ?_
    refine xj_icmp_ge (tgt := 106) E d_X0_close_58 (by decide) (fun h58 => ?_) (fun h58 => ?_)
    · have hk8 : k = xnb μ 0 := by
        have := ge_nI (a := xnb μ 0) (b := k) (by rw [← hc.1]; exact h58) (by omega) (by omega)
        omega
      subst hk8
      exact hx _ S hinv
    have hlt : k < xnb μ 0 := ng_nI (a := xnb μ 0) (b := k) (by rw [← hc.1]; exact h58) (by omega) (by omega)
    have hin : vp_in (nI k) 16 := in_nI (by omega) (by omega)
    have hcl : (nI k).toNatClampNeg = k := cl_nI (by omega)
    refine xj_aload_n E d_X0_close_61 rfl ?_
    refine xj_geta E fl_X0_55 (by decide) rfl (by decide) rfl d_X0_close_62 ?_
    refine xj_aload_n E d_X0_close_65 rfl ?_
    refine xj_geta E fl_X0_15 (by decide) rfl (by decide) rfl d_X0_close_66 ?_
    refine xj_iload E d_X0_close_69 rfl ?_
    refine xj_iald E (by decide) hin d_X0_close_71 ?_
    refine xj_zald E (by decide) (by rw [hcl]; exact (hT.car hlt).1) d_X0_close_72 ?_
    refine xj_if_eq (tgt := 100) E d_X0_close_73 (by decide) (fun h73 => ?_) (fun h73 => ?_)
    · refine xj_iinc (v := nI (k + 1)) E d_X0_close_100 rfl (nI_inc k) rfl ?_
      refine xj_goto (tgt := 49) E d_X0_close_103 (by decide) ?_
      first
        | exact ih (xnb μ 0 - (k + 1)) (by omega) (k + 1) _ rfl (by omega) (cIn_put hlt (Nat.lt_of_lt_of_le (hT.car hlt).2 hnt) (Nat.lt_of_lt_of_le (hT.2.2.1.typ hnt hlt).2 hnt) hinv (by rw [hcl, mcl_17] at h73; exact h73)) hx
        | exact ih (xnb μ 0 - (k + 1)) (by omega) (k + 1) _ rfl (by omega) (cIn_no (Nat.lt_of_lt_of_le (hT.car hlt).2 hnt) hinv (by rw [hcl, mcl_17] at h73; exact h73)) hx
    refine xj_aload_n E d_X0_close_76 rfl ?_
    refine xj_aload_n E d_X0_close_77 rfl ?_
    refine xj_geta E fl_X0_24 (by decide) rfl (by decide) rfl d_X0_close_78 ?_
    refine xj_geta E fl_X0_46 (by decide) rfl (by decide) rfl d_X0_close_81 ?_
    refine xj_iload E d_X0_close_84 rfl ?_
    refine xj_iald E (by decide) hin d_X0_close_86 ?_
    refine xj_aload_n E d_X0_close_87 rfl ?_
    refine xj_geta E fl_X0_24 (by decide) rfl (by decide) rfl d_X0_close_88 ?_
    refine xj_geta E fl_X0_49 (by decide) rfl (by decide) rfl d_X0_close_91 ?_
    refine xj_iload E d_X0_close_94 rfl ?_
    refine xj_iald E (by decide) hin d_X0_close_96 ?_
    refine xj_callV E (k_X3_put l G hI i _ _ _ (by rw [hcl]; exact (hT.2.2.1.typ hnt hlt).1)) cw_X0_52 cv_X3_put (by decide) rfl rfl rfl ⟨by decide, by decide⟩ (Nat.le_of_ble_eq_true rfl) d_X0_close_97 ⟨by decide, by decide⟩ (fun r97 μ97 ho97 hp97 => ?_)
    obtain ⟨rfl, rfl⟩ := hp97
    refine xj_mem (μ' := mcl μ i (pput (xbt μ 0 k) (xbv μ 0 k) S)) (by rw [dS_mcl, mcl_mcl, hcl]; rfl) ?_
    refine xj_iinc (v := nI (k + 1)) E d_X0_close_100 rfl (nI_inc k) rfl ?_
    refine xj_goto (tgt := 49) E d_X0_close_103 (by decide) ?_
    first
      | exact ih (xnb μ 0 - (k + 1)) (by omega) (k + 1) _ rfl (by omega) (cIn_put hlt (Nat.lt_of_lt_of_le (hT.car hlt).2 hnt) (Nat.lt_of_lt_of_le (hT.2.2.1.typ hnt hlt).2 hnt) hinv (by rw [hcl, mcl_17] at h73; exact h73)) hx
      | exact ih (xnb μ 0 - (k + 1)) (by omega) (k + 1) _ rfl (by omega) (cIn_no (Nat.lt_of_lt_of_le (hT.car hlt).2 hnt) hinv (by rw [hcl, mcl_17] at h73; exact h73)) hx
  have lp2 : ∀ (Q : State → Prop) (n r : Nat) (S : CS), nt - r = n → r ≤ nt → cOut (xnb μ b) (xbt μ b) (xbv μ b) (xnb μ 0) (xca μ) (xbt μ 0) (xbv μ 0) r S → (∀ (S' : CS), cOut (xnb μ b) (xbt μ b) (xbv μ b) (xnb μ 0) (xca μ) (xbt μ 0) (xbv μ 0) nt S' → XJ G (xA G) 5 p l e (xr 1) s m args below meth c 0 0 Q 112 [some (.inr (1, 0)), some (.inr (4, b)), some (.inr (16, i)), some (.inl (nI nt)), none] [] (mcl μ i S')) → XJ G (xA G) 5 p l e (xr 1) s m args below meth c 0 0 Q 38 [some (.inr (1, 0)), some (.inr (4, b)), some (.inr (16, i)), some (.inl (nI r)), none] [] (mcl μ i S) := by
    intro Q n
    induction n using Nat.strongRecOn with
    | _ n ih =>
    intro r S hn hr0 hinv hx
    refine xj_iload_n E d_X0_close_38 rfl ?_
    refine xj_aload_n E d_X0_close_39 rfl ?_
    refine xj_geti E fl_X0_28 (by decide) rfl (by decide) rfl d_X0_close_40 ?_
    refine xj_icmp_ge (tgt := 112) E d_X0_close_43 (by decide) (fun h43 => ?_) (fun h43 => ?_)
    · have hk8 : r = nt := by
        have := ge_nI (a := nt) (b := r) (by rw [← hT.2.1]; exact h43) (by omega) (by omega)
        omega
      subst hk8
      exact hx S hinv
    have hlt : r < nt := ng_nI (a := nt) (b := r) (by rw [← hT.2.1]; exact h43) (by omega) (by omega)
    refine xj_iconst (v := 0) E d_X0_close_46 (by decide) ?_
    refine xj_istore E d_X0_close_47 (by decide) rfl ?_
    refine lp3 Q S r (xnb μ 0) 0 S (by omega) (by omega) (cOut_in hinv) (fun k S' hS' => ?_)
    refine xj_iinc (v := nI (r + 1)) E d_X0_close_106 rfl (nI_inc r) rfl ?_
    refine xj_goto (tgt := 38) E d_X0_close_109 (by decide) ?_
    refine xj_forget 4 ?_
    exact ih (nt - (r + 1)) (by omega) (r + 1) S' rfl (by omega) (cOut_next (fun k hk => Nat.lt_of_lt_of_le (hT.car hk).2 hnt) hinv hS') hx
  have lp1 : ∀ (Q : State → Prop) (n k : Nat) (S : CS), xnb μ b - k = n → k ≤ xnb μ b → cBase (xnb μ b) (xbt μ b) (xbv μ b) (xnb μ 0) (xca μ) (xbt μ 0) (xbv μ 0) k S → (∀ (S' : CS), cBase (xnb μ b) (xbt μ b) (xbv μ b) (xnb μ 0) (xca μ) (xbt μ 0) (xbv μ 0) (xnb μ b) S' → XJ G (xA G) 5 p l e (xr 1) s m args below meth c 0 0 Q 36 [some (.inr (1, 0)), some (.inr (4, b)), some (.inr (16, i)), some (.inl (nI (xnb μ b))), none] [] (mcl μ i S')) → XJ G (xA G) 5 p l e (xr 1) s m args below meth c 0 0 Q 6 [some (.inr (1, 0)), some (.inr (4, b)), some (.inr (16, i)), some (.inl (nI k)), none] [] (mcl μ i S) := by
    intro Q n
    induction n using Nat.strongRecOn with
    | _ n ih =>
    intro k S hn hk hinv hx
    refine xj_iload_n E d_X0_close_6 rfl ?_
    refine xj_aload_n E d_X0_close_7 rfl ?_
    refine xj_geti E fl_X0_32 (by decide) rfl (by decide) rfl d_X0_close_8 ?_
    refine xj_icmp_ge (tgt := 36) E d_X0_close_11 (by decide) (fun h11 => ?_) (fun h11 => ?_)
    · have hk8 : k = xnb μ b := by
        have := ge_nI (a := xnb μ b) (b := k) (by rw [← hb.1]; exact h11) (by omega) (by omega)
        omega
      subst hk8
      exact hx S hinv
    have hlt : k < xnb μ b := ng_nI (a := xnb μ b) (b := k) (by rw [← hb.1]; exact h11) (by omega) (by omega)
    have hin : vp_in (nI k) (xln 5 b) := in_nI (by omega) (by omega)
    have hcl : (nI k).toNatClampNeg = k := cl_nI (by omega)
    refine xj_aload_n E d_X0_close_14 rfl ?_
    refine xj_aload_n E d_X0_close_15 rfl ?_
    refine xj_geta E fl_X0_46 (by decide) rfl (by decide) rfl d_X0_close_16 ?_
    refine xj_iload_n E d_X0_close_19 rfl ?_
    refine xj_iald E (by decide) hin d_X0_close_20 ?_
    refine xj_aload_n E d_X0_close_21 rfl ?_
    refine xj_geta E fl_X0_49 (by decide) rfl (by decide) rfl d_X0_close_22 ?_
    refine xj_iload_n E d_X0_close_25 rfl ?_
    refine xj_iald E (by decide) hin d_X0_close_26 ?_
    refine xj_callV E (k_X3_put l G hI i _ _ _ (by rw [hcl]; exact (hR.typ hnt hlt).1)) cw_X0_52 cv_X3_put (by decide) rfl rfl rfl ⟨by decide, by decide⟩ (Nat.le_of_ble_eq_true rfl) d_X0_close_27 ⟨by decide, by decide⟩ (fun r27 μ27 ho27 hp27 => ?_)
    obtain ⟨rfl, rfl⟩ := hp27
    refine xj_mem (μ' := mcl μ i (pput (xbt μ b k) (xbv μ b k) S)) (by rw [dS_mcl, mcl_mcl, hcl]; rfl) ?_
    refine xj_iinc (v := nI (k + 1)) E d_X0_close_30 rfl (nI_inc k) rfl ?_
    refine xj_goto (tgt := 6) E d_X0_close_33 (by decide) ?_
    exact ih (xnb μ b - (k + 1)) (by omega) (k + 1) _ rfl (by omega) (cBase_put hlt (Nat.lt_of_lt_of_le (hR.typ hnt hlt).2 hnt) hinv) hx
  refine xj_aload_n E d_X0_close_0 rfl ?_
  refine xj_callV E (k_X3_forget l G hI i _) cw_X0_41 cv_X3_forget (by decide) rfl rfl rfl ⟨by decide, by decide⟩ (Nat.le_of_ble_eq_true rfl) d_X0_close_1 ⟨by decide, by decide⟩ (fun r1 μ1 ho1 hp1 => ?_)
  obtain ⟨rfl, S1, rfl, hS1, hS2⟩ := hp1
  refine xj_iconst (v := 0) E d_X0_close_4 (by decide) ?_
  refine xj_istore_n E d_X0_close_5 (by decide) rfl ?_
  refine lp1 _ (xnb μ b) 0 S1 (by omega) (by omega) (cBase_0 hS1 hS2) (fun S2 hB => ?_)
  refine xj_iconst (v := 0) E d_X0_close_36 (by decide) ?_
  refine xj_istore_n E d_X0_close_37 (by decide) rfl ?_
  refine lp2 _ nt 0 S2 (by omega) (by omega) (cOut_0 (fun k hk => Nat.lt_of_lt_of_le (hT.car hk).2 hnt) hB) (fun S3 hO => ?_)
  exact xj_vret E hr hlk d_X0_close_112 ⟨rfl, S3, rfl, cOut_end (fun k hk => (hR.typ hnt hk).2) (fun k hk => (hT.2.2.1.typ hnt hk).2) hO⟩
end
section
def pForget (μ : Mem) (q : Nat) : Mem := mset (mset (mset μ 4 (q + 9) 0 0) 13 q 2 0) 13 q 3 0
def pDecl (μ : Mem) (j : Nat) (t : Int32) : Nat → Mem
  | 0 => pForget (mset μ 12 j 0 t) (5 * j)
  | n + 1 => pForget (pDecl μ j t n) (5 * j + 1 + n)
/-- the chain in memory: elements and their behaviours -/
def xCh (μ : Mem) (l : List (Int32 × Int32)) : Prop := μ 19 0 0 = nI l.length ∧ ∀ (k : Nat) (q : Int32 × Int32), l[k]? = some q → μ 20 0 k = q.1 ∧ μ 21 0 k = q.2
theorem xCh_add {μ : Mem} {l : List (Int32 × Int32)} {n b : Int32} (h : xCh μ l) (hl : l.length < 21) : xCh (mset (mset (mset μ 20 0 (μ 19 0 0).toNatClampNeg n) 21 0 (μ 19 0 0).toNatClampNeg b) 19 0 0 (μ 19 0 0 + 1)) (l ++ [(n, b)]) := by
  have hc : (μ 19 0 0).toNatClampNeg = l.length := by rw [h.1]; exact cl_nI (by omega)
  rw [hc]
  refine ⟨by rw [mset_at, h.1, nI_1]; simp, fun k q hk => ?_⟩
  show upd (μ 20 0) l.length n k = q.1 ∧ upd (μ 21 0) l.length b k = q.2
  by_cases e : k < l.length
  · rw [List.getElem?_append_left e] at hk
    have hne : ¬ k = l.length := by omega
    simp only [upd, hne, if_false]
    exact h.2 k q hk
  · rw [List.getElem?_append_right (by omega)] at hk
    have hz : k - l.length < 1 := (List.getElem?_eq_some_iff.mp hk).1
    have e2 : k = l.length := by omega
    subst e2
    simp at hk
    subst hk
    simp [upd]

set_option maxRecDepth 100000 in
set_option maxHeartbeats 4000000 in
/-- X6 declare -/
theorem k_X6_declare (l : Launch) (G : XG) (hI : XI G) (i : Nat) (a b d : Int32) (μ : Mem)  : XMet l G y_X6_declare c_X6_declare 4 none 0 [.inr (8, i), .inl a, .inl b, .inl d] μ (fun r μ' => r = none ∧ μ' = mset (mset (mset (mset μ 8 i 0 a) 8 i 1 b) 8 i 2 d) 4 (i + 1) 0 0) := by
  refine xj_met (by decide) hI (Nat.le_of_ble_eq_true rfl) ?_
  intro p e s m args below meth c E hr hlk
  have E : XE G (xA G) RX6 c_X6_declare 4 p s m args c := E
  refine xj_loc (L' := [some (.inr (8, i)), some (.inl a), some (.inl b), some (.inl d)]) rfl ?_
  refine xj_aload_n E d_X6_declare_0 rfl ?_
  refine xj_iload_n E d_X6_declare_1 rfl ?_
  refine xj_put E fp_X6_20 (by decide) rfl (by decide) rfl (narrow_i _) d_X6_declare_2 ?_
  refine xj_aload_n E d_X6_declare_5 rfl ?_
  refine xj_iload_n E d_X6_declare_6 rfl ?_
  refine xj_put E fp_X6_24 (by decide) rfl (by decide) rfl (narrow_i _) d_X6_declare_7 ?_
  refine xj_aload_n E d_X6_declare_10 rfl ?_
  refine xj_iload_n E d_X6_declare_11 rfl ?_
  refine xj_put E fp_X6_27 (by decide) rfl (by decide) rfl (narrow_i _) d_X6_declare_12 ?_
  refine xj_aload_n E d_X6_declare_15 rfl ?_
  refine xj_geta E fl_X6_14 (by decide) rfl (by decide) rfl d_X6_declare_16 ?_
  refine xj_iconst (v := 0) E d_X6_declare_19 (by decide) ?_
  refine xj_put E fp_X6_30 (by decide) rfl (by decide) rfl (narrow_i _) d_X6_declare_20 ?_
  exact xj_vret E hr hlk d_X6_declare_23 ⟨rfl, rfl⟩

set_option maxRecDepth 100000 in
set_option maxHeartbeats 4000000 in
/-- X6 takesPartIn -/
theorem k_X6_takesPartIn (l : Launch) (G : XG) (hI : XI G) (i : Nat) (x : Int32) (μ : Mem)  : XMet l G y_X6_takesPartIn c_X6_takesPartIn 2 (some .boolean) 0 [.inr (8, i), .inl x] μ (fun r μ' => r = some (.inl (if μ 8 i 1 &&& x = 0 then 0 else 1)) ∧ μ' = μ) := by
  refine xj_met (by decide) hI (Nat.le_of_ble_eq_true rfl) ?_
  intro p e s m args below meth c E hr hlk
  have E : XE G (xA G) RX6 c_X6_takesPartIn 2 p s m args c := E
  refine xj_loc (L' := [some (.inr (8, i)), some (.inl x)]) rfl ?_
  refine xj_aload_n E d_X6_takesPartIn_0 rfl ?_
  refine xj_geti E fl_X6_24 (by decide) rfl (by decide) rfl d_X6_takesPartIn_1 ?_
  refine xj_iload_n E d_X6_takesPartIn_4 rfl ?_
  refine xj_iand E d_X6_takesPartIn_5 ?_
  refine xj_if_eq (tgt := 13) E d_X6_takesPartIn_6 (by decide) (fun h6 => ?_) (fun h6 => ?_)
  · refine xj_iconst (v := 0) E d_X6_takesPartIn_13 (by decide) ?_
    exact xj_zret E hr hlk (by decide) d_X6_takesPartIn_14 (by first | exact ⟨by rw [if_pos h6], rfl⟩ | exact ⟨by rw [if_neg h6], rfl⟩)
  refine xj_iconst (v := 1) E d_X6_takesPartIn_9 (by decide) ?_
  refine xj_goto (tgt := 14) E d_X6_takesPartIn_10 (by decide) ?_
  exact xj_zret E hr hlk (by decide) d_X6_takesPartIn_14 (by first | exact ⟨by rw [if_pos h6], rfl⟩ | exact ⟨by rw [if_neg h6], rfl⟩)

set_option maxRecDepth 100000 in
set_option maxHeartbeats 4000000 in
/-- X5 declare -/
theorem k_X5_declare (l : Launch) (G : XG) (hI : XI G) (i : Nat) (a b x d : Int32) (μ : Mem)  : XMet l G y_X5_declare c_X5_declare 5 none 0 [.inr (10, i), .inl a, .inl b, .inl x, .inl d] μ (fun r μ' => r = none ∧ μ' = mset (mset (mset (mset μ 10 i 0 a) 10 i 1 b) 10 i 2 x) 10 i 3 d) := by
  refine xj_met (by decide) hI (Nat.le_of_ble_eq_true rfl) ?_
  intro p e s m args below meth c E hr hlk
  have E : XE G (xA G) RX5 c_X5_declare 5 p s m args c := E
  refine xj_loc (L' := [some (.inr (10, i)), some (.inl a), some (.inl b), some (.inl x), some (.inl d)]) rfl ?_
  refine xj_aload_n E d_X5_declare_0 rfl ?_
  refine xj_iload_n E d_X5_declare_1 rfl ?_
  refine xj_put E fp_X5_7 (by decide) rfl (by decide) rfl (narrow_i _) d_X5_declare_2 ?_
  refine xj_aload_n E d_X5_declare_5 rfl ?_
  refine xj_iload_n E d_X5_declare_6 rfl ?_
  refine xj_put E fp_X5_13 (by decide) rfl (by decide) rfl (narrow_i _) d_X5_declare_7 ?_
  refine xj_aload_n E d_X5_declare_10 rfl ?_
  refine xj_iload_n E d_X5_declare_11 rfl ?_
  refine xj_put E fp_X5_16 (by decide) rfl (by decide) rfl (narrow_i _) d_X5_declare_12 ?_
  refine xj_aload_n E d_X5_declare_15 rfl ?_
  refine xj_iload E d_X5_declare_16 rfl ?_
  refine xj_put E fp_X5_19 (by decide) rfl (by decide) rfl (narrow_i _) d_X5_declare_18 ?_
  exact xj_vret E hr hlk d_X5_declare_21 ⟨rfl, rfl⟩

set_option maxRecDepth 100000 in
set_option maxHeartbeats 4000000 in
/-- X5 decorates -/
theorem k_X5_decorates (l : Launch) (G : XG) (hI : XI G) (i : Nat) (x y : Int32) (μ : Mem)  : XMet l G y_X5_decorates c_X5_decorates 3 (some .boolean) 0 [.inr (10, i), .inl x, .inl y] μ (fun r μ' => r = some (.inl (if (x >>> (μ 10 i 1 &&& 31)) &&& 1 = 0 then 0 else if (μ 10 i 2 >>> (y &&& 31)) &&& 1 = 0 then 0 else 1)) ∧ μ' = μ) := by
  refine xj_met (by decide) hI (Nat.le_of_ble_eq_true rfl) ?_
  intro p e s m args below meth c E hr hlk
  have E : XE G (xA G) RX5 c_X5_decorates 3 p s m args c := E
  refine xj_loc (L' := [some (.inr (10, i)), some (.inl x), some (.inl y)]) rfl ?_
  refine xj_iload_n E d_X5_decorates_0 rfl ?_
  refine xj_aload_n E d_X5_decorates_1 rfl ?_
  refine xj_geti E fl_X5_13 (by decide) rfl (by decide) rfl d_X5_decorates_2 ?_
  refine xj_ishr E d_X5_decorates_5 ?_
  refine xj_iconst (v := 1) E d_X5_decorates_6 (by decide) ?_
  refine xj_iand E d_X5_decorates_7 ?_
  refine xj_if_eq (tgt := 26) E d_X5_decorates_8 (by decide) (fun h8 => ?_) (fun h8 => ?_)
  · refine xj_iconst (v := 0) E d_X5_decorates_26 (by decide) ?_
    exact xj_zret E hr hlk (by decide) d_X5_decorates_27 (by first | exact ⟨by rw [if_pos h8], rfl⟩ | exact ⟨by rw [if_neg h8, if_pos h19], rfl⟩ | exact ⟨by rw [if_neg h8, if_neg h19], rfl⟩)
  refine xj_aload_n E d_X5_decorates_11 rfl ?_
  refine xj_geti E fl_X5_16 (by decide) rfl (by decide) rfl d_X5_decorates_12 ?_
  refine xj_iload_n E d_X5_decorates_15 rfl ?_
  refine xj_ishr E d_X5_decorates_16 ?_
  refine xj_iconst (v := 1) E d_X5_decorates_17 (by decide) ?_
  refine xj_iand E d_X5_decorates_18 ?_
  refine xj_if_eq (tgt := 26) E d_X5_decorates_19 (by decide) (fun h19 => ?_) (fun h19 => ?_)
  · refine xj_iconst (v := 0) E d_X5_decorates_26 (by decide) ?_
    exact xj_zret E hr hlk (by decide) d_X5_decorates_27 (by first | exact ⟨by rw [if_pos h8], rfl⟩ | exact ⟨by rw [if_neg h8, if_pos h19], rfl⟩ | exact ⟨by rw [if_neg h8, if_neg h19], rfl⟩)
  refine xj_iconst (v := 1) E d_X5_decorates_22 (by decide) ?_
  refine xj_goto (tgt := 27) E d_X5_decorates_23 (by decide) ?_
  exact xj_zret E hr hlk (by decide) d_X5_decorates_27 (by first | exact ⟨by rw [if_pos h8], rfl⟩ | exact ⟨by rw [if_neg h8, if_pos h19], rfl⟩ | exact ⟨by rw [if_neg h8, if_neg h19], rfl⟩)

set_option maxRecDepth 100000 in
set_option maxHeartbeats 4000000 in
/-- X8 forget -/
theorem k_X8_forget (l : Launch) (G : XG) (hI : XI G) (q : Nat) (μ : Mem)  : XMet l G y_X8_forget c_X8_forget 1 none 0 [.inr (13, q)] μ (fun r μ' => r = none ∧ μ' = pForget μ q) := by
  refine xj_met (by decide) hI (Nat.le_of_ble_eq_true rfl) ?_
  intro p e s m args below meth c E hr hlk
  have E : XE G (xA G) RX8 c_X8_forget 1 p s m args c := E
  refine xj_loc (L' := [some (.inr (13, q))]) rfl ?_
  refine xj_aload_n E d_X8_forget_0 rfl ?_
  refine xj_geta E fl_X8_14 (by decide) rfl (by decide) rfl d_X8_forget_1 ?_
  refine xj_iconst (v := 0) E d_X8_forget_4 (by decide) ?_
  refine xj_put E fp_X8_24 (by decide) rfl (by decide) rfl (narrow_i _) d_X8_forget_5 ?_
  refine xj_aload_n E d_X8_forget_8 rfl ?_
  refine xj_iconst (v := 0) E d_X8_forget_9 (by decide) ?_
  refine xj_put E fp_X8_28 (by decide) rfl (by decide) rfl (narrow_i _) d_X8_forget_10 ?_
  refine xj_aload_n E d_X8_forget_13 rfl ?_
  refine xj_iconst (v := 0) E d_X8_forget_14 (by decide) ?_
  refine xj_put E fp_X8_31 (by decide) rfl (by decide) rfl (narrow_i _) d_X8_forget_15 ?_
  exact xj_vret E hr hlk d_X8_forget_18 ⟨rfl, rfl⟩

set_option maxRecDepth 100000 in
set_option maxHeartbeats 4000000 in
/-- X8 addListed -/
theorem k_X8_addListed (l : Launch) (G : XG) (hI : XI G) (q : Nat) (x : Int32) (μ : Mem) (hc : vp_in (μ 13 q 2) 4) : XMet l G y_X8_addListed c_X8_addListed 2 none 0 [.inr (13, q), .inl x] μ (fun r μ' => r = none ∧ μ' = mset (mset μ 14 q (μ 13 q 2).toNatClampNeg x) 13 q 2 (μ 13 q 2 + 1)) := by
  refine xj_met (by decide) hI (Nat.le_of_ble_eq_true rfl) ?_
  intro p e s m args below meth c E hr hlk
  have E : XE G (xA G) RX8 c_X8_addListed 2 p s m args c := E
  refine xj_loc (L' := [some (.inr (13, q)), some (.inl x)]) rfl ?_
  refine xj_aload_n E d_X8_addListed_0 rfl ?_
  refine xj_geta E fl_X8_20 (by decide) rfl (by decide) rfl d_X8_addListed_1 ?_
  refine xj_aload_n E d_X8_addListed_4 rfl ?_
  refine xj_geti E fl_X8_28 (by decide) rfl (by decide) rfl d_X8_addListed_5 ?_
  refine xj_iload_n E d_X8_addListed_8 rfl ?_
  refine xj_iast E (by decide) hc d_X8_addListed_9 ?_
  refine xj_aload_n E d_X8_addListed_10 rfl ?_
  refine xj_dup E d_X8_addListed_11 ?_
  refine xj_geti E fl_X8_28 (by decide) rfl (by decide) rfl d_X8_addListed_12 ?_
  refine xj_iconst (v := 1) E d_X8_addListed_15 (by decide) ?_
  refine xj_iadd E d_X8_addListed_16 ?_
  refine xj_put E fp_X8_28 (by decide) rfl (by decide) rfl (narrow_i _) d_X8_addListed_17 ?_
  exact xj_vret E hr hlk d_X8_addListed_20 ⟨rfl, rfl⟩

set_option maxRecDepth 100000 in
set_option maxHeartbeats 4000000 in
/-- X8 has -/
theorem k_X8_has (l : Launch) (G : XG) (hI : XI G) (q : Nat) (x : Int32) (μ : Mem)  : XMet l G y_X8_has c_X8_has 2 (some .boolean) 0 [.inr (13, q), .inl x] μ (fun r μ' => r = some (.inl (if μ 13 q 3 &&& x = 0 then 0 else 1)) ∧ μ' = μ) := by
  refine xj_met (by decide) hI (Nat.le_of_ble_eq_true rfl) ?_
  intro p e s m args below meth c E hr hlk
  have E : XE G (xA G) RX8 c_X8_has 2 p s m args c := E
  refine xj_loc (L' := [some (.inr (13, q)), some (.inl x)]) rfl ?_
  refine xj_aload_n E d_X8_has_0 rfl ?_
  refine xj_geti E fl_X8_31 (by decide) rfl (by decide) rfl d_X8_has_1 ?_
  refine xj_iload_n E d_X8_has_4 rfl ?_
  refine xj_iand E d_X8_has_5 ?_
  refine xj_if_eq (tgt := 13) E d_X8_has_6 (by decide) (fun h6 => ?_) (fun h6 => ?_)
  · refine xj_iconst (v := 0) E d_X8_has_13 (by decide) ?_
    exact xj_zret E hr hlk (by decide) d_X8_has_14 (by first | exact ⟨by rw [if_pos h6], rfl⟩ | exact ⟨by rw [if_neg h6], rfl⟩)
  refine xj_iconst (v := 1) E d_X8_has_9 (by decide) ?_
  refine xj_goto (tgt := 14) E d_X8_has_10 (by decide) ?_
  exact xj_zret E hr hlk (by decide) d_X8_has_14 (by first | exact ⟨by rw [if_pos h6], rfl⟩ | exact ⟨by rw [if_neg h6], rfl⟩)

set_option maxRecDepth 100000 in
set_option maxHeartbeats 4000000 in
/-- X4 place -/
theorem k_X4_place (l : Launch) (G : XG) (hI : XI G) (j : Nat) (x : Int32) (μ : Mem)  : XMet l G y_X4_place c_X4_place 2 (some (.object "BoundChains$Place")) 0 [.inr (12, j), .inl x] μ (fun r μ' => r = some (.inr (13, if x < 0 then 5 * j else if x < 4 then 5 * j + 1 + x.toNatClampNeg else 5 * j)) ∧ μ' = μ) := by
  refine xj_met (by decide) hI (Nat.le_of_ble_eq_true rfl) ?_
  intro p e s m args below meth c E hr hlk
  have E : XE G (xA G) RX4 c_X4_place 2 p s m args c := E
  refine xj_loc (L' := [some (.inr (12, j)), some (.inl x)]) rfl ?_
  refine xj_iload_n E d_X4_place_0 rfl ?_
  refine xj_if_lt (tgt := 9) E d_X4_place_1 (by decide) (fun h1 => ?_) (fun h1 => ?_)
  · refine xj_aload_n E d_X4_place_9 rfl ?_
    refine xj_geta E fl_X4_12 (by decide) rfl (by decide) rfl d_X4_place_10 ?_
    refine xj_goto (tgt := 22) E d_X4_place_13 (by decide) ?_
    exact xj_aret E hr hlk d_X4_place_22 (by first | exact ⟨by rw [if_pos h1], rfl⟩ | exact ⟨by rw [if_neg h1, if_pos h6], rfl⟩ | exact ⟨by rw [if_neg h1, if_neg h6], rfl⟩)
  refine xj_iload_n E d_X4_place_4 rfl ?_
  refine xj_iconst (v := 4) E d_X4_place_5 (by decide) ?_
  refine xj_icmp_lt (tgt := 16) E d_X4_place_6 (by decide) (fun h6 => ?_) (fun h6 => ?_)
  · refine xj_aload_n E d_X4_place_16 rfl ?_
    refine xj_geta E fl_X4_18 (by decide) rfl (by decide) rfl d_X4_place_17 ?_
    refine xj_iload_n E d_X4_place_20 rfl ?_
    refine xj_aald E (by decide) rfl (in_lt (n := 4) h1 h6 (by omega)) d_X4_place_21 ?_
    exact xj_aret E hr hlk d_X4_place_22 (by first | exact ⟨by rw [if_pos h1], rfl⟩ | exact ⟨by rw [if_neg h1, if_pos h6], rfl⟩ | exact ⟨by rw [if_neg h1, if_neg h6], rfl⟩)
  refine xj_aload_n E d_X4_place_9 rfl ?_
  refine xj_geta E fl_X4_12 (by decide) rfl (by decide) rfl d_X4_place_10 ?_
  refine xj_goto (tgt := 22) E d_X4_place_13 (by decide) ?_
  exact xj_aret E hr hlk d_X4_place_22 (by first | exact ⟨by rw [if_pos h1], rfl⟩ | exact ⟨by rw [if_neg h1, if_pos h6], rfl⟩ | exact ⟨by rw [if_neg h1, if_neg h6], rfl⟩)

set_option maxRecDepth 100000 in
set_option maxHeartbeats 4000000 in
/-- X4 declare -/
theorem k_X4_declare (l : Launch) (G : XG) (hI : XI G) (j : Nat) (t : Int32) (μ : Mem)  : XMet l G y_X4_declare c_X4_declare 3 none 1 [.inr (12, j), .inl t] μ (fun r μ' => r = none ∧ μ' = pDecl μ j t 4) := by
  refine xj_met (by decide) hI (Nat.le_of_ble_eq_true rfl) ?_
  intro p e s m args below meth c E hr hlk
  have E : XE G (xA G) RX4 c_X4_declare 3 p s m args c := E
  refine xj_loc (L' := [some (.inr (12, j)), some (.inl t), none]) rfl ?_
  have lp : ∀ (Q : State → Prop) (n k : Nat), 4 - k = n → k ≤ 4 → (XJ G (xA G) 3 p l e (xr 1) s m args below meth c 0 0 Q 34 [some (.inr (12, j)), some (.inl t), some (.inl (nI 4))] [] (pDecl μ j t 4)) → XJ G (xA G) 3 p l e (xr 1) s m args below meth c 0 0 Q 14 [some (.inr (12, j)), some (.inl t), some (.inl (nI k))] [] (pDecl μ j t k) := by
    intro Q n
    induction n using Nat.strongRecOn with
    | _ n ih =>
    intro k hn hk hx
    refine xj_iload_n E d_X4_declare_14 rfl ?_
    refine xj_iconst (v := 4) E d_X4_declare_15 (by decide) ?_
    refine xj_icmp_ge (tgt := 34) E d_X4_declare_16 (by decide) (fun h16 => ?_) (fun h16 => ?_)
    · have hk8 : k = 4 := by
        have := ge_nI (a := 4) h16 (by omega) (by omega)
        omega
      subst hk8
      exact hx
    have hlt : k < 4 := ng_nI (a := 4) h16 (by omega) (by omega)
    have hcl : (nI k).toNatClampNeg = k := cl_nI (by omega)
    refine xj_aload_n E d_X4_declare_19 rfl ?_
    refine xj_geta E fl_X4_18 (by decide) rfl (by decide) rfl d_X4_declare_20 ?_
    refine xj_iload_n E d_X4_declare_23 rfl ?_
    refine xj_aald E (by decide) rfl (show vp_in (nI k) 4 from in_nI hlt (by omega)) d_X4_declare_24 ?_
    refine xj_callV E (k_X8_forget l G hI _ _) cw_X4_26 cv_X8_forget (by decide) rfl rfl rfl ⟨by decide, by decide⟩ (Nat.le_of_ble_eq_true rfl) d_X4_declare_25 ⟨by decide, by decide⟩ (fun r25 μ25 ho25 hp25 => ?_)
    obtain ⟨rfl, rfl⟩ := hp25
    refine xj_mem (μ' := pDecl μ j t (k + 1)) (by rw [hcl]; rfl) ?_
    refine xj_iinc (v := nI (k + 1)) E d_X4_declare_28 rfl (nI_inc k) rfl ?_
    refine xj_goto (tgt := 14) E d_X4_declare_31 (by decide) ?_
    exact ih (4 - (k + 1)) (by omega) (k + 1) rfl (by omega) hx
  refine xj_aload_n E d_X4_declare_0 rfl ?_
  refine xj_iload_n E d_X4_declare_1 rfl ?_
  refine xj_put E fp_X4_22 (by decide) rfl (by decide) rfl (narrow_i _) d_X4_declare_2 ?_
  refine xj_aload_n E d_X4_declare_5 rfl ?_
  refine xj_geta E fl_X4_12 (by decide) rfl (by decide) rfl d_X4_declare_6 ?_
  refine xj_callV E (k_X8_forget l G hI _ _) cw_X4_26 cv_X8_forget (by decide) rfl rfl rfl ⟨by decide, by decide⟩ (Nat.le_of_ble_eq_true rfl) d_X4_declare_9 ⟨by decide, by decide⟩ (fun r9 μ9 ho9 hp9 => ?_)
  obtain ⟨rfl, rfl⟩ := hp9
  refine xj_iconst (v := 0) E d_X4_declare_12 (by decide) ?_
  refine xj_istore_n E d_X4_declare_13 (by decide) rfl ?_
  refine lp _ 4 0 rfl (by omega) ?_
  exact xj_vret E hr hlk d_X4_declare_34 ⟨rfl, rfl⟩

set_option maxRecDepth 100000 in
set_option maxHeartbeats 4000000 in
/-- X2 add -/
theorem k_X2_add (l : Launch) (G : XG) (hI : XI G) (n b : Int32) (ls0 : List (Int32 × Int32)) (μ : Mem) (hc : xCh μ ls0) (hl : ls0.length < 21) : XMet l G y_X2_add c_X2_add 3 none 0 [.inr (19, 0), .inl n, .inl b] μ (fun r μ' => r = none ∧ xCh μ' (ls0 ++ [(n, b)]) ∧ ∀ f, f ≠ 19 → f ≠ 20 → f ≠ 21 → μ' f = μ f) := by
  refine xj_met (by decide) hI (Nat.le_of_ble_eq_true rfl) ?_
  intro p e s m args below meth c E hr hlk
  have E : XE G (xA G) RX2 c_X2_add 3 p s m args c := E
  refine xj_loc (L' := [some (.inr (19, 0)), some (.inl n), some (.inl b)]) rfl ?_
  have hlt : μ 19 0 0 < 21 := by
    rw [hc.1]
    exact nI_lt (b := 21) hl (by omega)
  have hin : vp_in (μ 19 0 0) 21 := by
    rw [hc.1]
    exact in_nI hl (by omega)
  refine xj_aload_n E d_X2_add_0 rfl ?_
  refine xj_geti E fl_X2_18 (by decide) rfl (by decide) rfl d_X2_add_1 ?_
  refine xj_bipush (v := 21) E d_X2_add_4 (by decide) ?_
  refine xj_icmp_lt (tgt := 10) E d_X2_add_6 (by decide) (fun h6 => ?_) (fun h6 => absurd hlt h6)
  refine xj_aload_n E d_X2_add_10 rfl ?_
  refine xj_geta E fl_X2_9 (by decide) rfl (by decide) rfl d_X2_add_11 ?_
  refine xj_aload_n E d_X2_add_14 rfl ?_
  refine xj_geti E fl_X2_18 (by decide) rfl (by decide) rfl d_X2_add_15 ?_
  refine xj_iload_n E d_X2_add_18 rfl ?_
  refine xj_iast E (by decide) hin d_X2_add_19 ?_
  refine xj_aload_n E d_X2_add_20 rfl ?_
  refine xj_geta E fl_X2_15 (by decide) rfl (by decide) rfl d_X2_add_21 ?_
  refine xj_aload_n E d_X2_add_24 rfl ?_
  refine xj_geti E fl_X2_18 (by decide) rfl (by decide) rfl d_X2_add_25 ?_
  refine xj_iload_n E d_X2_add_28 rfl ?_
  refine xj_iast E (by decide) hin d_X2_add_29 ?_
  refine xj_aload_n E d_X2_add_30 rfl ?_
  refine xj_dup E d_X2_add_31 ?_
  refine xj_geti E fl_X2_18 (by decide) rfl (by decide) rfl d_X2_add_32 ?_
  refine xj_iconst (v := 1) E d_X2_add_35 (by decide) ?_
  refine xj_iadd E d_X2_add_36 ?_
  refine xj_put E fp_X2_18 (by decide) rfl (by decide) rfl (narrow_i _) d_X2_add_37 ?_
  exact xj_vret E hr hlk d_X2_add_40 ⟨rfl, xCh_add hc hl, fun f h1 h2 h3 => by rw [mset_f h1, mset_f h3, mset_f h2]⟩
end
section
/-- what the closures and the chain are made in may change, nothing else -/
def frS (μ μ' : Mem) : Prop := ∀ f, f < 16 ∨ 22 ≤ f → μ' f = μ f
theorem frS.rf (μ : Mem) : frS μ μ := fun _ _ => rfl
theorem frS.tr {μ μ1 μ2 : Mem} (h1 : frS μ μ1) (h2 : frS μ1 μ2) : frS μ μ2 := fun f hf => (h2 f hf).trans (h1 f hf)
theorem frS_mcl (μ : Mem) (i : Nat) (S : CS) : frS μ (mcl μ i S) := fun f hf => mcl_f ⟨by omega, by omega, by omega⟩
/-- besides, the bindings in force stay -/
def frB (μ μ' : Mem) : Prop := frS μ μ' ∧ dS μ' 0 = dS μ 0
theorem frB.rf (μ : Mem) : frB μ μ := ⟨frS.rf μ, rfl⟩
theorem frB.tr {μ μ1 μ2 : Mem} (h1 : frB μ μ1) (h2 : frB μ1 μ2) : frB μ μ2 := ⟨h1.1.tr h2.1, h2.2.trans h1.2⟩
theorem frB_mcl (μ : Mem) (S : CS) : frB μ (mcl μ 1 S) := ⟨frS_mcl μ 1 S, dS_mcl_ne (by decide)⟩
theorem frB_ch {μ μ' : Mem} (h : ∀ f, f ≠ 19 → f ≠ 20 → f ≠ 21 → μ' f = μ f) : frB μ μ' := ⟨fun f hf => h f (by omega) (by omega) (by omega), by
  unfold dS
  rw [h 17 (by decide) (by decide) (by decide), h 18 (by decide) (by decide) (by decide), h 16 (by decide) (by decide) (by decide)]⟩
theorem xCh_keep {μ μ' : Mem} {l : List (Int32 × Int32)} (h : xCh μ l) (h1 : μ' 19 = μ 19) (h2 : μ' 20 = μ 20) (h3 : μ' 21 = μ 21) : xCh μ' l := by
  unfold xCh
  rw [h1, h2, h3]
  exact h
theorem xCh_mcl {μ : Mem} {l : List (Int32 × Int32)} {i : Nat} {S : CS} (h : xCh μ l) : xCh (mcl μ i S) l := xCh_keep h (mcl_f ⟨by decide, by decide, by decide⟩) (mcl_f ⟨by decide, by decide, by decide⟩) (mcl_f ⟨by decide, by decide, by decide⟩)
theorem frS.nb {μ μ' : Mem} (h : frS μ μ') (b : Nat) : xnb μ' b = xnb μ b := by unfold xnb; rw [h 4 (by omega)]
theorem frS.bt {μ μ' : Mem} (h : frS μ μ') (b : Nat) : xbt μ' b = xbt μ b := by funext k; unfold xbt; rw [h 5 (by omega)]
theorem frS.bv {μ μ' : Mem} (h : frS μ μ') (b : Nat) : xbv μ' b = xbv μ b := by funext k; unfold xbv; rw [h 6 (by omega)]
theorem frS.ca {μ μ' : Mem} (h : frS μ μ') : xca μ' = xca μ := by funext k; unfold xca; rw [h 3 (by omega)]
theorem frS.pair {μ μ' : Mem} (h : frS μ μ') (b : Nat) : xPair μ' b = xPair μ b := by unfold xPair; rw [h.nb, h.bt, h.bv, h.nb, h.ca, h.bt, h.bv]
theorem frS.conf {μ μ' : Mem} (h : frS μ μ') (b : Nat) : xConf μ' b = xConf μ b := by unfold xConf; rw [h.nb, h.bt, h.bv, h.nb, h.ca, h.bt, h.bv]
theorem frS.clok {μ μ' : Mem} (h : frS μ μ') (b : Nat) : xClOK μ' b = xClOK μ b := by funext S; unfold xClOK; rw [h.nb, h.bt, h.bv, h.nb, h.ca, h.bt, h.bv]
theorem frS.row {μ μ' : Mem} (h : frS μ μ') (b nt : Nat) : xRow μ' b nt = xRow μ b nt := by unfold xRow; rw [h.nb, h 4 (by omega), h 5 (by omega)]
theorem frS.typ {μ μ' : Mem} (h : frS μ μ') (nt : Nat) : xTyp μ' nt = xTyp μ nt := by unfold xTyp; rw [h.nb, h.row, h 1 (by omega), h 3 (by omega)]
def xnt (μ : Mem) : Nat := (μ 1 0 0).toNatClampNeg
def xni (μ : Mem) : Nat := (μ 0 0 2).toNatClampNeg
def xnd (μ : Mem) : Nat := (μ 0 0 4).toNatClampNeg
def xnp (μ : Mem) : Nat := (μ 0 0 6).toNatClampNeg
def xnl (μ : Mem) (q : Nat) : Nat := (μ 13 q 2).toNatClampNeg
/-- the class's declarations are as they must be -/
def xWF (μ : Mem) : Prop := xTyp μ (xnt μ) ∧ (μ 0 0 2 = nI (xni μ) ∧ xni μ ≤ 8) ∧ (μ 0 0 4 = nI (xnd μ) ∧ xnd μ ≤ 4) ∧ (μ 0 0 6 = nI (xnp μ) ∧ xnp μ ≤ 4) ∧ (∀ i, i < xni μ → xRow μ (i + 1) (xnt μ)) ∧ ∀ q, q < 5 * xnp μ → xRow μ (q + 9) (xnt μ) ∧ (μ 13 q 2 = nI (xnl μ q) ∧ xnl μ q ≤ 4) ∧ ∀ k, k < xnl μ q → ∃ i, i < xni μ ∧ μ 14 q k = nI i
theorem frS.wf {μ μ' : Mem} (h : frS μ μ') (hw : xWF μ) : xWF μ' := by
  unfold xWF xnt xni xnd xnp xnl at *
  rw [h.typ, h 0 (by omega), h 1 (by omega), h 13 (by omega), h 14 (by omega)]
  simp only [h.row]
  exact hw
/-- a proposition as a truth value -/
noncomputable def bq (P : Prop) : Bool := @decide P (Classical.propDecidable P)
theorem bq_t {P : Prop} (h : P) : bq P = true := by unfold bq; exact @decide_eq_true P (Classical.propDecidable P) h
theorem bq_f {P : Prop} (h : ¬ P) : bq P = false := by unfold bq; exact @decide_eq_false P (Classical.propDecidable P) h
theorem bq_i {P : Prop} : bq P = true ↔ P := by
  constructor
  · intro q
    apply Classical.byContradiction
    intro n
    rw [bq_f n] at q
    cases q
  · exact bq_t

set_option maxRecDepth 100000 in
set_option maxHeartbeats 4000000 in
/-- X9 isWithin -/
theorem k_X9_isWithin (l : Launch) (G : XG) (hI : XI G) (x n : Int32) (μ : Mem)  : XMet l G y_X9_isWithin c_X9_isWithin 2 (some .boolean) 0 [.inl x, .inl n] μ (fun r μ' => r = some (.inl (if x < 0 then 0 else if n < x then 0 else 1)) ∧ μ' = μ) := by
  refine xj_met (by decide) hI (Nat.le_of_ble_eq_true rfl) ?_
  intro p e s m args below meth c E hr hlk
  have E : XE G (xA G) RX9 c_X9_isWithin 2 p s m args c := E
  refine xj_loc (L' := [some (.inl x), some (.inl n)]) rfl ?_
  refine xj_iload_n E d_X9_isWithin_0 rfl ?_
  refine xj_if_lt (tgt := 13) E d_X9_isWithin_1 (by decide) (fun h1 => ?_) (fun h1 => ?_)
  · refine xj_iconst (v := 0) E d_X9_isWithin_13 (by decide) ?_
    exact xj_zret E hr hlk (by decide) d_X9_isWithin_14 (by first | exact ⟨by rw [if_pos h1], rfl⟩ | exact ⟨by rw [if_neg h1, if_pos h6], rfl⟩ | exact ⟨by rw [if_neg h1, if_neg h6], rfl⟩)
  refine xj_iload_n E d_X9_isWithin_4 rfl ?_
  refine xj_iload_n E d_X9_isWithin_5 rfl ?_
  refine xj_icmp_gt (tgt := 13) E d_X9_isWithin_6 (by decide) (fun h6 => ?_) (fun h6 => ?_)
  · refine xj_iconst (v := 0) E d_X9_isWithin_13 (by decide) ?_
    exact xj_zret E hr hlk (by decide) d_X9_isWithin_14 (by first | exact ⟨by rw [if_pos h1], rfl⟩ | exact ⟨by rw [if_neg h1, if_pos h6], rfl⟩ | exact ⟨by rw [if_neg h1, if_neg h6], rfl⟩)
  refine xj_iconst (v := 1) E d_X9_isWithin_9 (by decide) ?_
  refine xj_goto (tgt := 14) E d_X9_isWithin_10 (by decide) ?_
  exact xj_zret E hr hlk (by decide) d_X9_isWithin_14 (by first | exact ⟨by rw [if_pos h1], rfl⟩ | exact ⟨by rw [if_neg h1, if_pos h6], rfl⟩ | exact ⟨by rw [if_neg h1, if_neg h6], rfl⟩)

set_option maxRecDepth 100000 in
set_option maxHeartbeats 4000000 in
/-- X9 isInterceptor -/
theorem k_X9_isInterceptor (l : Launch) (G : XG) (hI : XI G) (x : Int32) (μ : Mem)  : XMet l G y_X9_isInterceptor c_X9_isInterceptor 2 (some .boolean) 0 [.inr (0, 0), .inl x] μ (fun r μ' => r = some (.inl (if x < 0 then 0 else if μ 0 0 2 ≤ x then 0 else 1)) ∧ μ' = μ) := by
  refine xj_met (by decide) hI (Nat.le_of_ble_eq_true rfl) ?_
  intro p e s m args below meth c E hr hlk
  have E : XE G (xA G) RX9 c_X9_isInterceptor 2 p s m args c := E
  refine xj_loc (L' := [some (.inr (0, 0)), some (.inl x)]) rfl ?_
  refine xj_iload_n E d_X9_isInterceptor_0 rfl ?_
  refine xj_if_lt (tgt := 16) E d_X9_isInterceptor_1 (by decide) (fun h1 => ?_) (fun h1 => ?_)
  · refine xj_iconst (v := 0) E d_X9_isInterceptor_16 (by decide) ?_
    exact xj_zret E hr hlk (by decide) d_X9_isInterceptor_17 (by first | exact ⟨by rw [if_pos h1], rfl⟩ | exact ⟨by rw [if_neg h1, if_pos h9], rfl⟩ | exact ⟨by rw [if_neg h1, if_neg h9], rfl⟩)
  refine xj_iload_n E d_X9_isInterceptor_4 rfl ?_
  refine xj_aload_n E d_X9_isInterceptor_5 rfl ?_
  refine xj_geti E fl_X9_64 (by decide) rfl (by decide) rfl d_X9_isInterceptor_6 ?_
  refine xj_icmp_ge (tgt := 16) E d_X9_isInterceptor_9 (by decide) (fun h9 => ?_) (fun h9 => ?_)
  · refine xj_iconst (v := 0) E d_X9_isInterceptor_16 (by decide) ?_
    exact xj_zret E hr hlk (by decide) d_X9_isInterceptor_17 (by first | exact ⟨by rw [if_pos h1], rfl⟩ | exact ⟨by rw [if_neg h1, if_pos h9], rfl⟩ | exact ⟨by rw [if_neg h1, if_neg h9], rfl⟩)
  refine xj_iconst (v := 1) E d_X9_isInterceptor_12 (by decide) ?_
  refine xj_goto (tgt := 17) E d_X9_isInterceptor_13 (by decide) ?_
  exact xj_zret E hr hlk (by decide) d_X9_isInterceptor_17 (by first | exact ⟨by rw [if_pos h1], rfl⟩ | exact ⟨by rw [if_neg h1, if_pos h9], rfl⟩ | exact ⟨by rw [if_neg h1, if_neg h9], rfl⟩)

set_option maxRecDepth 100000 in
set_option maxHeartbeats 4000000 in
/-- X9 isComponent -/
theorem k_X9_isComponent (l : Launch) (G : XG) (hI : XI G) (x : Int32) (μ : Mem)  : XMet l G y_X9_isComponent c_X9_isComponent 2 (some .boolean) 0 [.inr (0, 0), .inl x] μ (fun r μ' => r = some (.inl (if x < 0 then 0 else if μ 0 0 6 ≤ x then 0 else 1)) ∧ μ' = μ) := by
  refine xj_met (by decide) hI (Nat.le_of_ble_eq_true rfl) ?_
  intro p e s m args below meth c E hr hlk
  have E : XE G (xA G) RX9 c_X9_isComponent 2 p s m args c := E
  refine xj_loc (L' := [some (.inr (0, 0)), some (.inl x)]) rfl ?_
  refine xj_iload_n E d_X9_isComponent_0 rfl ?_
  refine xj_if_lt (tgt := 16) E d_X9_isComponent_1 (by decide) (fun h1 => ?_) (fun h1 => ?_)
  · refine xj_iconst (v := 0) E d_X9_isComponent_16 (by decide) ?_
    exact xj_zret E hr hlk (by decide) d_X9_isComponent_17 (by first | exact ⟨by rw [if_pos h1], rfl⟩ | exact ⟨by rw [if_neg h1, if_pos h9], rfl⟩ | exact ⟨by rw [if_neg h1, if_neg h9], rfl⟩)
  refine xj_iload_n E d_X9_isComponent_4 rfl ?_
  refine xj_aload_n E d_X9_isComponent_5 rfl ?_
  refine xj_geti E fl_X9_71 (by decide) rfl (by decide) rfl d_X9_isComponent_6 ?_
  refine xj_icmp_ge (tgt := 16) E d_X9_isComponent_9 (by decide) (fun h9 => ?_) (fun h9 => ?_)
  · refine xj_iconst (v := 0) E d_X9_isComponent_16 (by decide) ?_
    exact xj_zret E hr hlk (by decide) d_X9_isComponent_17 (by first | exact ⟨by rw [if_pos h1], rfl⟩ | exact ⟨by rw [if_neg h1, if_pos h9], rfl⟩ | exact ⟨by rw [if_neg h1, if_neg h9], rfl⟩)
  refine xj_iconst (v := 1) E d_X9_isComponent_12 (by decide) ?_
  refine xj_goto (tgt := 17) E d_X9_isComponent_13 (by decide) ?_
  exact xj_zret E hr hlk (by decide) d_X9_isComponent_17 (by first | exact ⟨by rw [if_pos h1], rfl⟩ | exact ⟨by rw [if_neg h1, if_pos h9], rfl⟩ | exact ⟨by rw [if_neg h1, if_neg h9], rfl⟩)

set_option maxRecDepth 100000 in
set_option maxHeartbeats 4000000 in
/-- X9 isPlace -/
theorem k_X9_isPlace (l : Launch) (G : XG) (hI : XI G) (x y : Int32) (μ : Mem)  : XMet l G y_X9_isPlace c_X9_isPlace 3 (some .boolean) 1 [.inr (0, 0), .inl x, .inl y] μ (fun r μ' => r = some (.inl (if (if x < 0 then (0 : Int32) else if μ 0 0 6 ≤ x then 0 else 1) = 0 then 0 else if y < -1 then 0 else if 4 ≤ y then 0 else 1)) ∧ μ' = μ) := by
  refine xj_met (by decide) hI (Nat.le_of_ble_eq_true rfl) ?_
  intro p e s m args below meth c E hr hlk
  have E : XE G (xA G) RX9 c_X9_isPlace 3 p s m args c := E
  refine xj_loc (L' := [some (.inr (0, 0)), some (.inl x), some (.inl y)]) rfl ?_
  refine xj_aload_n E d_X9_isPlace_0 rfl ?_
  refine xj_iload_n E d_X9_isPlace_1 rfl ?_
  refine xj_callV E (k_X9_isComponent l G hI x _) cw_X9_184 cv_X9_isComponent (by decide) rfl rfl rfl ⟨by decide, by decide⟩ (Nat.le_of_ble_eq_true rfl) d_X9_isPlace_2 ⟨by decide, by decide⟩ (fun r2 μ2 ho2 hp2 => ?_)
  obtain ⟨rfl, rfl⟩ := hp2
  refine xj_if_eq (tgt := 22) E d_X9_isPlace_5 (by decide) (fun h5 => ?_) (fun h5 => ?_)
  · refine xj_iconst (v := 0) E d_X9_isPlace_22 (by decide) ?_
    exact xj_zret E hr hlk (by decide) d_X9_isPlace_23 (by first | exact ⟨by rw [if_pos h5], rfl⟩ | exact ⟨by rw [if_neg h5, if_pos h10], rfl⟩ | exact ⟨by rw [if_neg h5, if_neg h10, if_pos h15], rfl⟩ | exact ⟨by rw [if_neg h5, if_neg h10, if_neg h15], rfl⟩)
  refine xj_iload_n E d_X9_isPlace_8 rfl ?_
  refine xj_iconst (v := -1) E d_X9_isPlace_9 (by decide) ?_
  refine xj_icmp_lt (tgt := 22) E d_X9_isPlace_10 (by decide) (fun h10 => ?_) (fun h10 => ?_)
  · refine xj_iconst (v := 0) E d_X9_isPlace_22 (by decide) ?_
    exact xj_zret E hr hlk (by decide) d_X9_isPlace_23 (by first | exact ⟨by rw [if_pos h5], rfl⟩ | exact ⟨by rw [if_neg h5, if_pos h10], rfl⟩ | exact ⟨by rw [if_neg h5, if_neg h10, if_pos h15], rfl⟩ | exact ⟨by rw [if_neg h5, if_neg h10, if_neg h15], rfl⟩)
  refine xj_iload_n E d_X9_isPlace_13 rfl ?_
  refine xj_iconst (v := 4) E d_X9_isPlace_14 (by decide) ?_
  refine xj_icmp_ge (tgt := 22) E d_X9_isPlace_15 (by decide) (fun h15 => ?_) (fun h15 => ?_)
  · refine xj_iconst (v := 0) E d_X9_isPlace_22 (by decide) ?_
    exact xj_zret E hr hlk (by decide) d_X9_isPlace_23 (by first | exact ⟨by rw [if_pos h5], rfl⟩ | exact ⟨by rw [if_neg h5, if_pos h10], rfl⟩ | exact ⟨by rw [if_neg h5, if_neg h10, if_pos h15], rfl⟩ | exact ⟨by rw [if_neg h5, if_neg h10, if_neg h15], rfl⟩)
  refine xj_iconst (v := 1) E d_X9_isPlace_18 (by decide) ?_
  refine xj_goto (tgt := 23) E d_X9_isPlace_19 (by decide) ?_
  exact xj_zret E hr hlk (by decide) d_X9_isPlace_23 (by first | exact ⟨by rw [if_pos h5], rfl⟩ | exact ⟨by rw [if_neg h5, if_pos h10], rfl⟩ | exact ⟨by rw [if_neg h5, if_neg h10, if_pos h15], rfl⟩ | exact ⟨by rw [if_neg h5, if_neg h10, if_neg h15], rfl⟩)

set_option maxRecDepth 100000 in
set_option maxHeartbeats 4000000 in
/-- X9 hasChain -/
theorem k_X9_hasChain (l : Launch) (G : XG) (hI : XI G) (x y : Int32) (μ : Mem)  : XMet l G y_X9_hasChain c_X9_hasChain 3 (some .boolean) 1 [.inr (0, 0), .inl x, .inl y] μ (fun r μ' => r = some (.inl (if (if x < 0 then (0 : Int32) else if μ 0 0 6 ≤ x then 0 else 1) = 0 then 0 else if y < 0 then 0 else if 7 ≤ y then 0 else 1)) ∧ μ' = μ) := by
  refine xj_met (by decide) hI (Nat.le_of_ble_eq_true rfl) ?_
  intro p e s m args below meth c E hr hlk
  have E : XE G (xA G) RX9 c_X9_hasChain 3 p s m args c := E
  refine xj_loc (L' := [some (.inr (0, 0)), some (.inl x), some (.inl y)]) rfl ?_
  refine xj_aload_n E d_X9_hasChain_0 rfl ?_
  refine xj_iload_n E d_X9_hasChain_1 rfl ?_
  refine xj_callV E (k_X9_isComponent l G hI x _) cw_X9_184 cv_X9_isComponent (by decide) rfl rfl rfl ⟨by decide, by decide⟩ (Nat.le_of_ble_eq_true rfl) d_X9_hasChain_2 ⟨by decide, by decide⟩ (fun r2 μ2 ho2 hp2 => ?_)
  obtain ⟨rfl, rfl⟩ := hp2
  refine xj_if_eq (tgt := 22) E d_X9_hasChain_5 (by decide) (fun h5 => ?_) (fun h5 => ?_)
  · refine xj_iconst (v := 0) E d_X9_hasChain_22 (by decide) ?_
    exact xj_zret E hr hlk (by decide) d_X9_hasChain_23 (by first | exact ⟨by rw [if_pos h5], rfl⟩ | exact ⟨by rw [if_neg h5, if_pos h9], rfl⟩ | exact ⟨by rw [if_neg h5, if_neg h9, if_pos h15], rfl⟩ | exact ⟨by rw [if_neg h5, if_neg h9, if_neg h15], rfl⟩)
  refine xj_iload_n E d_X9_hasChain_8 rfl ?_
  refine xj_if_lt (tgt := 22) E d_X9_hasChain_9 (by decide) (fun h9 => ?_) (fun h9 => ?_)
  · refine xj_iconst (v := 0) E d_X9_hasChain_22 (by decide) ?_
    exact xj_zret E hr hlk (by decide) d_X9_hasChain_23 (by first | exact ⟨by rw [if_pos h5], rfl⟩ | exact ⟨by rw [if_neg h5, if_pos h9], rfl⟩ | exact ⟨by rw [if_neg h5, if_neg h9, if_pos h15], rfl⟩ | exact ⟨by rw [if_neg h5, if_neg h9, if_neg h15], rfl⟩)
  refine xj_iload_n E d_X9_hasChain_12 rfl ?_
  refine xj_bipush (v := 7) E d_X9_hasChain_13 (by decide) ?_
  refine xj_icmp_ge (tgt := 22) E d_X9_hasChain_15 (by decide) (fun h15 => ?_) (fun h15 => ?_)
  · refine xj_iconst (v := 0) E d_X9_hasChain_22 (by decide) ?_
    exact xj_zret E hr hlk (by decide) d_X9_hasChain_23 (by first | exact ⟨by rw [if_pos h5], rfl⟩ | exact ⟨by rw [if_neg h5, if_pos h9], rfl⟩ | exact ⟨by rw [if_neg h5, if_neg h9, if_pos h15], rfl⟩ | exact ⟨by rw [if_neg h5, if_neg h9, if_neg h15], rfl⟩)
  refine xj_iconst (v := 1) E d_X9_hasChain_18 (by decide) ?_
  refine xj_goto (tgt := 23) E d_X9_hasChain_19 (by decide) ?_
  exact xj_zret E hr hlk (by decide) d_X9_hasChain_23 (by first | exact ⟨by rw [if_pos h5], rfl⟩ | exact ⟨by rw [if_neg h5, if_pos h9], rfl⟩ | exact ⟨by rw [if_neg h5, if_neg h9, if_pos h15], rfl⟩ | exact ⟨by rw [if_neg h5, if_neg h9, if_neg h15], rfl⟩)

theorem b01 {P : Prop} [Decidable P] (h : (if P then (0 : Int32) else 1) = 0) : P := by
  apply Classical.byContradiction
  intro q
  rw [if_neg q] at h
  exact i1_0 h
theorem b01n {P : Prop} [Decidable P] (h : ¬ (if P then (0 : Int32) else 1) = 0) : ¬ P := fun q => h (if_pos q)

set_option maxRecDepth 100000 in
set_option maxHeartbeats 4000000 in
/-- X9 addBinding -/
theorem k_X9_addBinding (l : Launch) (G : XG) (hI : XI G) (b : Nat) (t v : Int32) (μ : Mem) (h0 : ¬ μ 4 b 0 < 0) (ht : vp_in t 8) : XMet l G y_X9_addBinding c_X9_addBinding 4 (some .int) 2 [.inr (0, 0), .inr (4, b), .inl t, .inl v] μ (fun r μ' => (μ 4 b 0 < nI (xln 5 b) → r = some (.inl 0) ∧ μ' = mset (mset (mset μ 5 b (μ 4 b 0).toNatClampNeg t) 6 b (μ 4 b 0).toNatClampNeg (if μ 2 0 t.toNatClampNeg = 0 then 0 else v)) 4 b 0 (μ 4 b 0 + 1)) ∧ (¬ μ 4 b 0 < nI (xln 5 b) → r = some (.inl (-5)) ∧ μ' = μ)) := by
  refine xj_met (by decide) hI (Nat.le_of_ble_eq_true rfl) ?_
  intro p e s m args below meth c E hr hlk
  have E : XE G (xA G) RX9 c_X9_addBinding 4 p s m args c := E
  refine xj_loc (L' := [some (.inr (0, 0)), some (.inr (4, b)), some (.inl t), some (.inl v)]) rfl ?_
  refine xj_aload_n E d_X9_addBinding_0 rfl ?_
  refine xj_callV E (k_X1_isFull l G hI b _) cw_X9_94 cv_X1_isFull (by decide) rfl rfl rfl ⟨by decide, by decide⟩ (Nat.le_of_ble_eq_true rfl) d_X9_addBinding_1 ⟨by decide, by decide⟩ (fun r1 μ1 ho1 hp1 => ?_)
  obtain ⟨rfl, rfl⟩ := hp1
  refine xj_if_eq (tgt := 10) E d_X9_addBinding_4 (by decide) (fun h4 => ?_) (fun h4 => ?_)
  · refine xj_aload_n E d_X9_addBinding_10 rfl ?_
    refine xj_iload_n E d_X9_addBinding_11 rfl ?_
    refine xj_aload_n E d_X9_addBinding_12 rfl ?_
    refine xj_geta E fl_X9_10 (by decide) rfl (by decide) rfl d_X9_addBinding_13 ?_
    refine xj_iload_n E d_X9_addBinding_16 rfl ?_
    refine xj_iload_n E d_X9_addBinding_17 rfl ?_
    refine xj_callV E (k_X0_valueThatMatters l G hI t v _ ht) cw_X9_187 cv_X0_valueThatMatters (by decide) rfl rfl rfl ⟨by decide, by decide⟩ (Nat.le_of_ble_eq_true rfl) d_X9_addBinding_18 ⟨by decide, by decide⟩ (fun r18 μ18 ho18 hp18 => ?_)
    obtain ⟨rfl, rfl⟩ := hp18
    refine xj_callV E (k_X1_add l G hI b t _ _ h0) cw_X9_191 cv_X1_add (by decide) rfl rfl rfl ⟨by decide, by decide⟩ (Nat.le_of_ble_eq_true rfl) d_X9_addBinding_21 ⟨by decide, by decide⟩ (fun r21 μ21 ho21 hp21 => ?_)
    obtain ⟨rfl, rfl⟩ := hp21
    refine xj_iconst (v := 0) E d_X9_addBinding_24 (by decide) ?_
    exact xj_iret E hr hlk d_X9_addBinding_25 ⟨fun q => ⟨rfl, if_pos q⟩, fun q => absurd (b01 h4) q⟩
  refine xj_bipush (v := -5) E d_X9_addBinding_7 (by decide) ?_
  exact xj_iret E hr hlk d_X9_addBinding_9 ⟨fun q => absurd q (b01n h4), fun _ => ⟨rfl, rfl⟩⟩

set_option maxRecDepth 100000 in
set_option maxHeartbeats 4000000 in
/-- X9 hasConflict -/
theorem k_X9_hasConflict (l : Launch) (G : XG) (hI : XI G) (b nt : Nat) (μ : Mem) (hT : xTyp μ nt) (hR : xRow μ b nt) : XMet l G y_X9_hasConflict c_X9_hasConflict 2 (some .boolean) 2 [.inr (0, 0), .inr (4, b)] μ (fun r μ' => ∃ x : Int32, r = some (.inl x) ∧ (x = 0 ∨ x = 1) ∧ (x = 1 ↔ xConf μ b) ∧ frS μ μ') := by
  refine xj_met (by decide) hI (Nat.le_of_ble_eq_true rfl) ?_
  intro p e s m args below meth c E hr hlk
  have E : XE G (xA G) RX9 c_X9_hasConflict 2 p s m args c := E
  refine xj_loc (L' := [some (.inr (0, 0)), some (.inr (4, b))]) rfl ?_
  refine xj_aload_n E d_X9_hasConflict_0 rfl ?_
  refine xj_geta E fl_X9_10 (by decide) rfl (by decide) rfl d_X9_hasConflict_1 ?_
  refine xj_aload_n E d_X9_hasConflict_4 rfl ?_
  refine xj_aload_n E d_X9_hasConflict_5 rfl ?_
  refine xj_geta E fl_X9_44 (by decide) rfl (by decide) rfl d_X9_hasConflict_6 ?_
  refine xj_callV E (k_X0_close l G hI b 1 nt _ hT hR) cw_X9_203 cv_X0_close (by decide) rfl rfl rfl ⟨by decide, by decide⟩ (Nat.le_of_ble_eq_true rfl) d_X9_hasConflict_9 ⟨by decide, by decide⟩ (fun r9 μ9 ho9 hp9 => ?_)
  obtain ⟨rfl, S, rfl, hS⟩ := hp9
  refine xj_aload_n E d_X9_hasConflict_12 rfl ?_
  refine xj_geta E fl_X9_44 (by decide) rfl (by decide) rfl d_X9_hasConflict_13 ?_
  refine xj_geti E fl_X9_207 (by decide) rfl (by decide) rfl d_X9_hasConflict_16 ?_
  refine xj_st (st' := [.inl S.2.2]) (by rw [mcl_16]; rfl) ?_
  exact xj_zret E hr hlk hS.1.2 d_X9_hasConflict_19 ⟨_, rfl, hS.1.2, hS.2.2.2, frS_mcl _ _ _⟩

/-- a closure that is done, without a conflict, is among what is in force just when each of its pairs is -/
theorem xAmong {μ : Mem} {b nt : Nat} {S F : CS} {FP : Nat → Int32 → Prop} (hT : xTyp μ nt) (hR : xRow μ b nt) (hc : ¬ xConf μ b) (hS : xClOK μ b S) (hF : ∀ t, t < 8 → ∀ v, (¬ F.1 t = 0 ∧ F.2.1 t = v) ↔ FP t v) : (∀ t, t < 8 → ¬ S.1 t = 0 → ¬ F.1 t = 0 ∧ F.2.1 t = S.2.1 t) ↔ ∀ t v, xPair μ b t v → FP t v := by
  have hlt : ∀ t v, xPair μ b t v → t < 8 := by
    intro t v hp
    rcases hp with ⟨k, hk, rfl, -⟩ | ⟨k, hk, -, rfl, -⟩
    · have := (hR.typ hT.1 hk).2
      have := hT.1
      omega
    · have := (hT.2.2.1.typ hT.1 hk).2
      have := hT.1
      omega
  constructor
  · intro h t v hp
    have ht := hlt t v hp
    have h1 : S.1 t = 1 := (hS.2.1 t ht).mpr hp.reach
    have h2 := hS.2.2.1 t ht h1
    have e : S.2.1 t = v := by
      apply Classical.byContradiction
      intro q
      exact hc ⟨t, _, _, h2, hp, q⟩
    have h3 := h t ht (by rw [h1]; exact i1_0)
    exact (hF t ht v).mp ⟨h3.1, h3.2.trans e⟩
  · intro h t ht h1
    have h2 : S.1 t = 1 := (hS.1.1 t ht).resolve_left h1
    exact (hF t ht _).mpr (h t _ (hS.2.2.1 t ht h2))

set_option maxRecDepth 100000 in
set_option maxHeartbeats 4000000 in
/-- X9 isInForce -/
theorem k_X9_isInForce (l : Launch) (G : XG) (hI : XI G) (b nt : Nat) (FP : Nat → Int32 → Prop) (μ : Mem) (hT : xTyp μ nt) (hR : xRow μ b nt) (hc : ¬ xConf μ b) (hF : ∀ t, t < 8 → ∀ v, (¬ (dS μ 0).1 t = 0 ∧ (dS μ 0).2.1 t = v) ↔ FP t v) : XMet l G y_X9_isInForce c_X9_isInForce 2 (some .boolean) 2 [.inr (0, 0), .inr (4, b)] μ (fun r μ' => r = some (.inl (if bq (0 < xnb μ b ∧ ∀ t v, xPair μ b t v → FP t v) then 1 else 0)) ∧ ∃ S : CS, μ' = mcl μ 1 S) := by
  refine xj_met (by decide) hI (Nat.le_of_ble_eq_true rfl) ?_
  intro p e s m args below meth c E hr hlk
  have E : XE G (xA G) RX9 c_X9_isInForce 2 p s m args c := E
  refine xj_loc (L' := [some (.inr (0, 0)), some (.inr (4, b))]) rfl ?_
  have hb := hR.cnt
  have hb5 := xln5 b
  refine xj_aload_n E d_X9_isInForce_0 rfl ?_
  refine xj_geta E fl_X9_10 (by decide) rfl (by decide) rfl d_X9_isInForce_1 ?_
  refine xj_aload_n E d_X9_isInForce_4 rfl ?_
  refine xj_aload_n E d_X9_isInForce_5 rfl ?_
  refine xj_geta E fl_X9_44 (by decide) rfl (by decide) rfl d_X9_isInForce_6 ?_
  refine xj_callV E (k_X0_close l G hI b 1 nt _ hT hR) cw_X9_203 cv_X0_close (by decide) rfl rfl rfl ⟨by decide, by decide⟩ (Nat.le_of_ble_eq_true rfl) d_X9_isInForce_9 ⟨by decide, by decide⟩ (fun r9 μ9 ho9 hp9 => ?_)
  obtain ⟨rfl, S, rfl, hS⟩ := hp9
  refine xj_aload_n E d_X9_isInForce_12 rfl ?_
  refine xj_geti E fl_X9_246 (by decide) rfl (by decide) rfl d_X9_isInForce_13 ?_
  refine xj_if_le (tgt := 37) E d_X9_isInForce_16 (by decide) (fun h16 => ?_) (fun h16 => ?_)
  · try
      have hge : ¬ 0 < xnb μ b := fun q => nI_nle q (by omega) (by rw [← hb.1]; exact h16)
    refine xj_iconst (v := 0) E d_X9_isInForce_37 (by decide) ?_
    exact xj_zret E hr hlk (by decide) d_X9_isInForce_38 (by first | exact ⟨by rw [bq_f (fun q => hge q.1)]; rfl, _, rfl⟩ | exact ⟨by rw [bq_f (fun q => i0_1 ((h30.symm.trans (hA.mpr q.2))))]; rfl, _, rfl⟩ | exact ⟨by rw [bq_t ⟨hgt, hA.mp (hx.resolve_left h30)⟩]; rfl, _, rfl⟩)
  have hgt : 0 < xnb μ b := by
    apply Classical.byContradiction
    intro q
    have q0 : xnb μ b = 0 := by omega
    apply h16
    show μ 4 b 0 ≤ 0
    rw [hb.1, q0]
    decide
  refine xj_aload_n E d_X9_isInForce_19 rfl ?_
  refine xj_geta E fl_X9_44 (by decide) rfl (by decide) rfl d_X9_isInForce_20 ?_
  refine xj_aload_n E d_X9_isInForce_23 rfl ?_
  refine xj_geta E fl_X9_40 (by decide) rfl (by decide) rfl d_X9_isInForce_24 ?_
  refine xj_callV E (k_X3_isAmong l G hI 1 0 _) cw_X9_247 cv_X3_isAmong (by decide) rfl rfl rfl ⟨by decide, by decide⟩ (Nat.le_of_ble_eq_true rfl) d_X9_isInForce_27 ⟨by decide, by decide⟩ (fun r27 μ27 ho27 hp27 => ?_)
  obtain ⟨x, rfl, hx, hxi, rfl⟩ := hp27
  refine xj_st (st' := [.inl x]) rfl ?_
  have hA : x = 1 ↔ ∀ t v, xPair μ b t v → FP t v := by
    rw [hxi]
    refine Iff.trans ?_ (xAmong hT hR hc hS hF)
    rw [mcl_17, mcl_18, mcl_i (by decide), mcl_i (by decide)]
    exact Iff.rfl
  refine xj_if_eq (tgt := 37) E d_X9_isInForce_30 (by decide) (fun h30 => ?_) (fun h30 => ?_)
  · try
      have hge : ¬ 0 < xnb μ b := fun q => nI_nle q (by omega) (by rw [← hb.1]; exact h16)
    refine xj_iconst (v := 0) E d_X9_isInForce_37 (by decide) ?_
    exact xj_zret E hr hlk (by decide) d_X9_isInForce_38 (by first | exact ⟨by rw [bq_f (fun q => hge q.1)]; rfl, _, rfl⟩ | exact ⟨by rw [bq_f (fun q => i0_1 ((h30.symm.trans (hA.mpr q.2))))]; rfl, _, rfl⟩ | exact ⟨by rw [bq_t ⟨hgt, hA.mp (hx.resolve_left h30)⟩]; rfl, _, rfl⟩)
  refine xj_iconst (v := 1) E d_X9_isInForce_33 (by decide) ?_
  refine xj_goto (tgt := 38) E d_X9_isInForce_34 (by decide) ?_
  exact xj_zret E hr hlk (by decide) d_X9_isInForce_38 (by first | exact ⟨by rw [bq_f (fun q => hge q.1)]; rfl, _, rfl⟩ | exact ⟨by rw [bq_f (fun q => i0_1 ((h30.symm.trans (hA.mpr q.2))))]; rfl, _, rfl⟩ | exact ⟨by rw [bq_t ⟨hgt, hA.mp (hx.resolve_left h30)⟩]; rfl, _, rfl⟩)

/-- what is in force for a method: its own closure, and of the component's what is of no type of its own -/
theorem xForce {μ : Mem} {b b0 nt : Nat} {S S0 F : CS} (hT : xTyp μ nt) (hS : xClOK μ b S) (hS0 : xClOK μ b0 S0) (hc : ¬ xConf μ b) (hc0 : ¬ xConf μ b0) (hM : cMrg S0 S 8 F) : ∀ t, t < 8 → ∀ v, (¬ F.1 t = 0 ∧ F.2.1 t = v) ↔ (xPair μ b t v ∨ (xPair μ b0 t v ∧ ¬ ∃ v', xPair μ b t v')) := by
  intro t ht v
  have h := hM.2 t ht
  have uq : ∀ {b1 : Nat} {S1 : CS}, xClOK μ b1 S1 → ¬ xConf μ b1 → S1.1 t = 1 → ∀ w, xPair μ b1 t w ↔ S1.2.1 t = w := by
    intro b1 S1 h1 h2 h3 w
    have h4 := h1.2.2.1 t ht h3
    constructor
    · intro h5
      apply Classical.byContradiction
      intro q
      exact h2 ⟨t, _, _, h4, h5, q⟩
    · intro e; rw [← e]; exact h4
  have no : ∀ {b1 : Nat} {S1 : CS}, xClOK μ b1 S1 → S1.1 t = 0 → ∀ w, ¬ xPair μ b1 t w := by
    intro b1 S1 h1 h2 w h3
    have := (h1.2.1 t ht).mpr h3.reach
    rw [h2] at this
    exact i0_1 this
  rcases hS.1.1 t ht with e | e
  · by_cases e0 : S0.1 t = 0
    · have h1 := h.2 (fun q => q.2.1 e0)
      constructor
      · rintro ⟨q, -⟩; exact absurd (h1.1.trans e) q
      · rintro (q | ⟨q, -⟩)
        · exact absurd q (no hS e v)
        · exact absurd q (no hS0 e0 v)
    · have h1 := h.1 ⟨by omega, e0, e⟩
      have e1 : S0.1 t = 1 := (hS0.1.1 t ht).resolve_left e0
      rw [h1.1, h1.2]
      constructor
      · rintro ⟨-, q⟩
        exact Or.inr ⟨(uq hS0 hc0 e1 v).mpr q, fun ⟨w, hw⟩ => no hS e w hw⟩
      · rintro (q | ⟨q, -⟩)
        · exact absurd q (no hS e v)
        · exact ⟨i1_0, (uq hS0 hc0 e1 v).mp q⟩
  · have h1 := h.2 (fun q => by rw [e] at q; exact i1_0 q.2.2)
    rw [h1.1, h1.2, e]
    constructor
    · rintro ⟨-, q⟩; exact Or.inl ((uq hS hc e v).mpr q)
    · rintro (q | ⟨-, q⟩)
      · exact ⟨i1_0, (uq hS hc e v).mp q⟩
      · exact absurd ⟨_, (uq hS hc e _).mpr rfl⟩ q
theorem xForce1 {μ : Mem} {b : Nat} {S : CS} (hS : xClOK μ b S) (hc : ¬ xConf μ b) : ∀ t, t < 8 → ∀ v, (¬ S.1 t = 0 ∧ S.2.1 t = v) ↔ xPair μ b t v := by
  intro t ht v
  constructor
  · rintro ⟨h1, rfl⟩
    exact hS.2.2.1 t ht ((hS.1.1 t ht).resolve_left h1)
  · intro h
    have h1 := (hS.2.1 t ht).mpr h.reach
    refine ⟨by rw [h1]; exact i1_0, ?_⟩
    apply Classical.byContradiction
    intro q
    exact hc ⟨t, _, _, hS.2.2.1 t ht h1, h, q⟩

set_option maxRecDepth 100000 in
set_option maxHeartbeats 4000000 in
/-- X9 findInForceForMethod -/
theorem k_X9_findInForceForMethod (l : Launch) (G : XG) (hI : XI G) (j q nt : Nat) (μ : Mem) (hT : xTyp μ nt) (hR : xRow μ (q + 9) nt) (hR0 : xRow μ (5 * j + 9) nt) (hc : ¬ xConf μ (q + 9)) (hc0 : ¬ xConf μ (5 * j + 9)) : XMet l G y_X9_findInForceForMethod c_X9_findInForceForMethod 3 none 2 [.inr (0, 0), .inr (12, j), .inr (13, q)] μ (fun r μ' => r = none ∧ frS μ μ' ∧ (∀ f, f = 19 ∨ f = 20 ∨ f = 21 → μ' f = μ f) ∧ ∀ t, t < 8 → ∀ v, (¬ (dS μ' 0).1 t = 0 ∧ (dS μ' 0).2.1 t = v) ↔ (xPair μ (q + 9) t v ∨ (xPair μ (5 * j + 9) t v ∧ ¬ ∃ v', xPair μ (q + 9) t v'))) := by
  refine xj_met (by decide) hI (Nat.le_of_ble_eq_true rfl) ?_
  intro p e s m args below meth c E hr hlk
  have E : XE G (xA G) RX9 c_X9_findInForceForMethod 3 p s m args c := E
  refine xj_loc (L' := [some (.inr (0, 0)), some (.inr (12, j)), some (.inr (13, q))]) rfl ?_
  refine xj_aload_n E d_X9_findInForceForMethod_0 rfl ?_
  refine xj_geta E fl_X9_10 (by decide) rfl (by decide) rfl d_X9_findInForceForMethod_1 ?_
  refine xj_aload_n E d_X9_findInForceForMethod_4 rfl ?_
  refine xj_geta E fl_X9_133 (by decide) rfl (by decide) rfl d_X9_findInForceForMethod_5 ?_
  refine xj_aload_n E d_X9_findInForceForMethod_8 rfl ?_
  refine xj_geta E fl_X9_40 (by decide) rfl (by decide) rfl d_X9_findInForceForMethod_9 ?_
  refine xj_callV E (k_X0_close l G hI (q + 9) 0 nt _ hT hR) cw_X9_203 cv_X0_close (by decide) rfl rfl rfl ⟨by decide, by decide⟩ (Nat.le_of_ble_eq_true rfl) d_X9_findInForceForMethod_12 ⟨by decide, by decide⟩ (fun r12 μ12 ho12 hp12 => ?_)
  obtain ⟨rfl, S, rfl, hS⟩ := hp12
  refine xj_aload_n E d_X9_findInForceForMethod_15 rfl ?_
  refine xj_geta E fl_X9_10 (by decide) rfl (by decide) rfl d_X9_findInForceForMethod_16 ?_
  refine xj_aload_n E d_X9_findInForceForMethod_19 rfl ?_
  refine xj_geta E fl_X9_199 (by decide) rfl (by decide) rfl d_X9_findInForceForMethod_20 ?_
  refine xj_geta E fl_X9_133 (by decide) rfl (by decide) rfl d_X9_findInForceForMethod_23 ?_
  refine xj_aload_n E d_X9_findInForceForMethod_26 rfl ?_
  refine xj_geta E fl_X9_44 (by decide) rfl (by decide) rfl d_X9_findInForceForMethod_27 ?_
  refine xj_callV E (k_X0_close l G hI (5 * j + 9) 1 nt _ (by rw [(frS_mcl μ 0 S).typ]; exact hT) (by rw [(frS_mcl μ 0 S).row]; exact hR0)) cw_X9_203 cv_X0_close (by decide) rfl rfl rfl ⟨by decide, by decide⟩ (Nat.le_of_ble_eq_true rfl) d_X9_findInForceForMethod_30 ⟨by decide, by decide⟩ (fun r30 μ30 ho30 hp30 => ?_)
  obtain ⟨rfl, S0, rfl, hS0⟩ := hp30
  rw [(frS_mcl μ 0 S).clok] at hS0
  refine xj_aload_n E d_X9_findInForceForMethod_33 rfl ?_
  refine xj_geta E fl_X9_40 (by decide) rfl (by decide) rfl d_X9_findInForceForMethod_34 ?_
  refine xj_aload_n E d_X9_findInForceForMethod_37 rfl ?_
  refine xj_geta E fl_X9_44 (by decide) rfl (by decide) rfl d_X9_findInForceForMethod_38 ?_
  refine xj_callV E (k_X3_addMissingTypes l G hI 0 1 _ (by decide)) cw_X9_227 cv_X3_addMissingTypes (by decide) rfl rfl rfl ⟨by decide, by decide⟩ (Nat.le_of_ble_eq_true rfl) d_X9_findInForceForMethod_41 ⟨by decide, by decide⟩ (fun r41 μ41 ho41 hp41 => ?_)
  obtain ⟨rfl, F, rfl, hF⟩ := hp41
  rw [dS_mcl, dS_mcl_ne (by decide), dS_mcl] at hF
  exact xj_vret E hr hlk d_X9_findInForceForMethod_44 ⟨rfl, ((frS_mcl _ _ _).tr (frS_mcl _ _ _)).tr (frS_mcl _ _ _), fun f hf => by rw [mcl_f ⟨by omega, by omega, by omega⟩, mcl_f ⟨by omega, by omega, by omega⟩, mcl_f ⟨by omega, by omega, by omega⟩], by rw [dS_mcl]; exact xForce hT hS hS0 hc hc0 hF⟩
end
section
/-! PURE: those i below n, by p in turn -/
def sel (bd : Nat → Nat → Bool) (n p i : Nat) : List Nat := (List.range p).flatMap (fun p' => (List.range n).filter (bd p')) ++ (List.range i).filter (bd p)
theorem sel_0 (bd : Nat → Nat → Bool) (n : Nat) : sel bd n 0 0 = [] := rfl
theorem sel_yes {bd : Nat → Nat → Bool} {n p i : Nat} (h : bd p i = true) : sel bd n p (i + 1) = sel bd n p i ++ [i] := by
  unfold sel
  rw [List.range_succ (n := i), List.filter_append, List.append_assoc]
  simp [h]
theorem sel_no {bd : Nat → Nat → Bool} {n p i : Nat} (h : bd p i = false) : sel bd n p (i + 1) = sel bd n p i := by
  unfold sel
  rw [List.range_succ (n := i), List.filter_append]
  simp [h]
theorem sel_next (bd : Nat → Nat → Bool) (n p : Nat) : sel bd n p n = sel bd n (p + 1) 0 := by
  unfold sel
  rw [List.range_succ (n := p), List.flatMap_append]
  simp
theorem sel_mem {bd : Nat → Nat → Bool} {n p i j : Nat} : j ∈ sel bd n p i ↔ (∃ p', p' < p ∧ j < n ∧ bd p' j = true) ∨ (j < i ∧ bd p j = true) := by
  unfold sel
  simp only [List.mem_append, List.mem_flatMap, List.mem_range, List.mem_filter]
theorem sel_nodup {bd : Nat → Nat → Bool} {n : Nat} (hu : ∀ p p' i, p < 9 → p' < 9 → bd p i = true → bd p' i = true → p = p') : ∀ p, p ≤ 9 → ∀ i, i ≤ n → (p < 9 ∨ i = 0) → (sel bd n p i).Nodup := by
  intro p
  induction p with
  | zero =>
    intro _ i
    induction i with
    | zero => intro _ _; exact List.nodup_nil
    | succ i ih =>
      intro hi _
      have ih := ih (by omega) (Or.inl (by omega))
      cases hb : bd 0 i with
      | false => rw [sel_no hb]; exact ih
      | true =>
        rw [sel_yes hb]
        refine List.nodup_append.mpr ⟨ih, by simp, fun a ha b hb' e => ?_⟩
        rw [List.mem_singleton.mp hb'] at e
        subst e
        rcases sel_mem.mp ha with ⟨p', h1, -⟩ | ⟨h1, -⟩ <;> omega
  | succ p ihp =>
    intro hp i
    induction i with
    | zero => intro _ _; rw [← sel_next]; exact ihp (by omega) n (Nat.le_refl _) (Or.inl (by omega))
    | succ i ih =>
      intro hi hq
      have hq : p + 1 < 9 := by omega
      have ih := ih (by omega) (Or.inl hq)
      cases hb : bd (p + 1) i with
      | false => rw [sel_no hb]; exact ih
      | true =>
        rw [sel_yes hb]
        refine List.nodup_append.mpr ⟨ih, by simp, fun a ha b hb' e => ?_⟩
        rw [List.mem_singleton.mp hb'] at e
        subst e
        rcases sel_mem.mp ha with ⟨p', h1, h2, h3⟩ | ⟨h1, -⟩
        · have := hu p' (p + 1) a (by omega) (by omega) h3 hb
          omega
        · omega
theorem sel_len {bd : Nat → Nat → Bool} {n p i : Nat} (hu : ∀ p p' i, p < 9 → p' < 9 → bd p i = true → bd p' i = true → p = p') (hp : p ≤ 9) (hi : i ≤ n) (hq : p < 9 ∨ i = 0) : (sel bd n p i).length ≤ n := by
  have := nodup_len (c := List.range n) (sel_nodup hu p hp i hi hq) (fun x hx => List.mem_range.mpr (by
    rcases sel_mem.mp hx with ⟨p', -, h, -⟩ | ⟨h, -⟩ <;> omega))
  simpa using this
theorem sel_lt {bd : Nat → Nat → Bool} {n p i : Nat} (hu : ∀ p p' i, p < 9 → p' < 9 → bd p i = true → bd p' i = true → p = p') (hp : p < 9) (hi : i < n) (hb : bd p i = true) : (sel bd n p i).length < n := by
  have := sel_len (n := n) (i := i + 1) hu (by omega) hi (Or.inl hp)
  rw [sel_yes hb] at this
  simp at this
  omega
theorem b10 {b : Bool} (h : (if b = true then (1 : Int32) else 0) = 0) : b = false := by
  cases b
  · rfl
  · exact absurd h i1_0
theorem b10n {b : Bool} (h : ¬ (if b = true then (1 : Int32) else 0) = 0) : b = true := by
  cases b
  · exact absurd rfl h
  · rfl
/-- the elements of interceptors and decorators, with their behaviours -/
def eI (μ : Mem) (i : Nat) : Int32 × Int32 := (nI i, μ 8 i 2)
def eD (μ : Mem) (d : Nat) : Int32 × Int32 := (nI (16 + d), μ 10 d 3)
/-- those of a list that take part -/
def xLs (μ : Mem) (q : Nat) (kind : Int32) : Nat → List Nat
  | 0 => []
  | n + 1 => if μ 8 (μ 14 q n).toNatClampNeg 1 &&& kind = 0 then xLs μ q kind n else xLs μ q kind n ++ [(μ 14 q n).toNatClampNeg]
theorem xLs_len (μ : Mem) (q : Nat) (kind : Int32) : ∀ n, (xLs μ q kind n).length ≤ n
  | 0 => Nat.le_refl _
  | n + 1 => by
    have := xLs_len μ q kind n
    unfold xLs
    split
    · omega
    · simp; exact this
noncomputable def bdX (μ : Mem) (FP : Nat → Int32 → Prop) (kind : Int32) (p i : Nat) : Bool := decide (μ 8 i 0 = nI (p + 1)) && (decide (¬ μ 8 i 1 &&& kind = 0) && bq (0 < xnb μ (i + 1) ∧ ∀ t v, xPair μ (i + 1) t v → FP t v))
theorem bdX_u (μ : Mem) (FP : Nat → Int32 → Prop) (kind : Int32) : ∀ p p' i, p < 9 → p' < 9 → bdX μ FP kind p i = true → bdX μ FP kind p' i = true → p = p' := by
  intro p p' i hp hp' h1 h2
  unfold bdX at h1 h2
  simp only [Bool.and_eq_true, decide_eq_true_eq] at h1 h2
  have := (nI_eq (by omega) (by omega)).mp (h1.1.symm.trans h2.1)
  omega
def bdD (μ : Mem) (ot y : Int32) (p d : Nat) : Bool := decide (μ 10 d 0 = nI (p + 1)) && decide (¬ (ot >>> (μ 10 d 1 &&& 31)) &&& 1 = 0 ∧ ¬ (μ 10 d 2 >>> (y &&& 31)) &&& 1 = 0)
theorem bdD_u (μ : Mem) (ot y : Int32) : ∀ p p' i, p < 9 → p' < 9 → bdD μ ot y p i = true → bdD μ ot y p' i = true → p = p' := by
  intro p p' i hp hp' h1 h2
  unfold bdD at h1 h2
  simp only [Bool.and_eq_true, decide_eq_true_eq] at h1 h2
  have := (nI_eq (by omega) (by omega)).mp (h1.1.symm.trans h2.1)
  omega

set_option maxRecDepth 100000 in
set_option maxHeartbeats 4000000 in
/-- X9 appendListed -/
theorem k_X9_appendListed (l : Launch) (G : XG) (hI : XI G) (q : Nat) (kind : Int32) (l0 : List (Int32 × Int32)) (μ : Mem) (hw : xWF μ) (hq : q < 5 * xnp μ) (hch : xCh μ l0) (hl0 : l0.length ≤ 4) : XMet l G y_X9_appendListed c_X9_appendListed 5 none 1 [.inr (0, 0), .inr (13, q), .inl kind] μ (fun r μ' => r = none ∧ frB μ μ' ∧ xCh μ' (l0 ++ (xLs μ q kind (xnl μ q)).map (eI μ))) := by
  refine xj_met (by decide) hI (Nat.le_of_ble_eq_true rfl) ?_
  intro p e s m args below meth c E hr hlk
  have E : XE G (xA G) RX9 c_X9_appendListed 5 p s m args c := E
  refine xj_loc (L' := [some (.inr (0, 0)), some (.inr (13, q)), some (.inl kind), none, none]) rfl ?_
  have hnl := hw.2.2.2.2.2 q hq
  have hni := hw.2.1
  have lp : ∀ (Q : State → Prop) (n k : Nat) (μ1 : Mem), xnl μ q - k = n → k ≤ xnl μ q → frB μ μ1 → xCh μ1 (l0 ++ (xLs μ q kind k).map (eI μ)) → (∀ μ2, frB μ μ2 → xCh μ2 (l0 ++ (xLs μ q kind (xnl μ q)).map (eI μ)) → XJ G (xA G) 5 p l e (xr 1) s m args below meth c 0 0 Q 57 [some (.inr (0, 0)), some (.inr (13, q)), some (.inl kind), some (.inl (nI (xnl μ q))), none] [] μ2) → XJ G (xA G) 5 p l e (xr 1) s m args below meth c 0 0 Q 2 [some (.inr (0, 0)), some (.inr (13, q)), some (.inl kind), some (.inl (nI k)), none] [] μ1 := by
    intro Q n
    induction n using Nat.strongRecOn with
    | _ n ih =>
    intro k μ1 hn hk hfr hch hx
    have e13 : μ1 13 q 2 = nI (xnl μ q) := by rw [hfr.1 13 (by omega)]; exact hnl.2.1.1
    refine xj_iload_n E d_X9_appendListed_2 rfl ?_
    refine xj_aload_n E d_X9_appendListed_3 rfl ?_
    refine xj_geti E fl_X9_136 (by decide) rfl (by decide) rfl d_X9_appendListed_4 ?_
    refine xj_icmp_ge (tgt := 57) E d_X9_appendListed_7 (by decide) (fun h7 => ?_) (fun h7 => ?_)
    · have hk8 : k = xnl μ q := by
        have := ge_nI (b := k) (by rw [← e13]; exact h7) (by omega) (by omega)
        omega
      subst hk8
      exact hx _ hfr hch
    have hlt : k < xnl μ q := ng_nI (b := k) (by rw [← e13]; exact h7) (by omega) (by omega)
    obtain ⟨i, hi, hli⟩ := hnl.2.2 k hlt
    refine xj_aload_n E d_X9_appendListed_10 rfl ?_
    refine xj_geta E fl_X9_231 (by decide) rfl (by decide) rfl d_X9_appendListed_11 ?_
    refine xj_iload_n E d_X9_appendListed_14 rfl ?_
    refine xj_iald E (by decide) (show vp_in (nI k) 4 from in_nI (by omega) (by omega)) d_X9_appendListed_15 ?_
    refine xj_st (st' := [.inl (nI i)]) (by rw [cl_nI (by omega), hfr.1 14 (by omega), hli]; try rfl) ?_
    refine xj_istore E d_X9_appendListed_16 (by decide) rfl ?_
    refine xj_aload_n E d_X9_appendListed_18 rfl ?_
    refine xj_geta E fl_X9_18 (by decide) rfl (by decide) rfl d_X9_appendListed_19 ?_
    refine xj_iload E d_X9_appendListed_22 rfl ?_
    refine xj_aald E (by decide) rfl (show vp_in (nI i) 8 from in_nI (by omega) (by omega)) d_X9_appendListed_24 ?_
    refine xj_st (st' := [.inr (8, i)]) (by rw [cl_nI (by omega)]; try rfl) ?_
    refine xj_iload_n E d_X9_appendListed_25 rfl ?_
    refine xj_callV E (k_X6_takesPartIn l G hI i kind _) cw_X9_234 cv_X6_takesPartIn (by decide) rfl rfl rfl ⟨by decide, by decide⟩ (Nat.le_of_ble_eq_true rfl) d_X9_appendListed_26 ⟨by decide, by decide⟩ (fun r26 μ26 ho26 hp26 => ?_)
    obtain ⟨rfl, hm26⟩ := hp26
    refine xj_mem hm26 ?_
    refine xj_if_eq (tgt := 51) E d_X9_appendListed_29 (by decide) (fun h29 => ?_) (fun h29 => ?_)
    · refine xj_iinc (v := nI (k + 1)) E d_X9_appendListed_51 rfl (nI_inc k) rfl ?_
      refine xj_goto (tgt := 2) E d_X9_appendListed_54 (by decide) ?_
      refine xj_forget 4 ?_
      have hg : (μ 14 q k).toNatClampNeg = i := by rw [hli]; exact cl_nI (by omega)
      first
        | (refine ih (xnl μ q - (k + 1)) (by omega) (k + 1) _ rfl (by omega) (hfr.tr (frB_ch hfr2)) ?_ hx
           have hnz := b01n h29
           rw [hfr.1 8 (by omega)] at hnz hch2
           unfold xLs
           rw [hg, if_neg hnz, List.map_append, ← List.append_assoc]
           exact hch2)
        | (refine ih (xnl μ q - (k + 1)) (by omega) (k + 1) _ rfl (by omega) hfr ?_ hx
           have hz := b01 h29
           rw [hfr.1 8 (by omega)] at hz
           unfold xLs
           rw [hg, if_pos hz]
           exact hch)
    refine xj_aload_n E d_X9_appendListed_32 rfl ?_
    refine xj_geta E fl_X9_50 (by decide) rfl (by decide) rfl d_X9_appendListed_33 ?_
    refine xj_iload E d_X9_appendListed_36 rfl ?_
    refine xj_aload_n E d_X9_appendListed_38 rfl ?_
    refine xj_geta E fl_X9_18 (by decide) rfl (by decide) rfl d_X9_appendListed_39 ?_
    refine xj_iload E d_X9_appendListed_42 rfl ?_
    refine xj_aald E (by decide) rfl (show vp_in (nI i) 8 from in_nI (by omega) (by omega)) d_X9_appendListed_44 ?_
    refine xj_st (st' := [.inr (8, i), .inl (nI i), .inr (19, 0)]) (by rw [cl_nI (by omega)]; try rfl) ?_
    have hlen := xLs_len μ q kind k
    refine xj_geti E fl_X9_237 (by decide) rfl (by decide) rfl d_X9_appendListed_45 ?_
    refine xj_callV E (k_X2_add l G hI (nI i) _ (l0 ++ (xLs μ q kind k).map (eI μ)) _ hch (by simp; omega)) cw_X9_226 cv_X2_add (by decide) rfl rfl rfl ⟨by decide, by decide⟩ (Nat.le_of_ble_eq_true rfl) d_X9_appendListed_48 ⟨by decide, by decide⟩ (fun r48 μ48 ho48 hp48 => ?_)
    obtain ⟨rfl, hch2, hfr2⟩ := hp48
    refine xj_iinc (v := nI (k + 1)) E d_X9_appendListed_51 rfl (nI_inc k) rfl ?_
    refine xj_goto (tgt := 2) E d_X9_appendListed_54 (by decide) ?_
    refine xj_forget 4 ?_
    have hg : (μ 14 q k).toNatClampNeg = i := by rw [hli]; exact cl_nI (by omega)
    first
      | (refine ih (xnl μ q - (k + 1)) (by omega) (k + 1) _ rfl (by omega) (hfr.tr (frB_ch hfr2)) ?_ hx
         have hnz := b01n h29
         rw [hfr.1 8 (by omega)] at hnz hch2
         unfold xLs
         rw [hg, if_neg hnz, List.map_append, ← List.append_assoc]
         exact hch2)
      | (refine ih (xnl μ q - (k + 1)) (by omega) (k + 1) _ rfl (by omega) hfr ?_ hx
         have hz := b01 h29
         rw [hfr.1 8 (by omega)] at hz
         unfold xLs
         rw [hg, if_pos hz]
         exact hch)
  refine xj_iconst (v := 0) E d_X9_appendListed_0 (by decide) ?_
  refine xj_istore_n E d_X9_appendListed_1 (by decide) rfl ?_
  refine lp _ (xnl μ q) 0 μ (by omega) (by omega) (frB.rf μ) (by simpa [xLs] using hch) (fun μ2 hfr2 hch2 => ?_)
  exact xj_vret E hr hlk d_X9_appendListed_57 ⟨rfl, hfr2, hch2⟩

set_option maxRecDepth 100000 in
set_option maxHeartbeats 4000000 in
/-- X9 appendBound -/
theorem k_X9_appendBound (l : Launch) (G : XG) (hI : XI G) (kind : Int32) (FP : Nat → Int32 → Prop) (l0 : List (Int32 × Int32)) (μ : Mem) (hw : xWF μ) (hcf : ∀ i, i < xni μ → ¬ xConf μ (i + 1)) (hF : ∀ t, t < 8 → ∀ v, (¬ (dS μ 0).1 t = 0 ∧ (dS μ 0).2.1 t = v) ↔ FP t v) (hch : xCh μ l0) (hl0 : l0.length ≤ 8) : XMet l G y_X9_appendBound c_X9_appendBound 5 none 3 [.inr (0, 0), .inl kind] μ (fun r μ' => r = none ∧ frB μ μ' ∧ xCh μ' (l0 ++ (sel (bdX μ FP kind) (xni μ) 9 0).map (eI μ))) := by
  refine xj_met (by decide) hI (Nat.le_of_ble_eq_true rfl) ?_
  intro p e s m args below meth c E hr hlk
  have E : XE G (xA G) RX9 c_X9_appendBound 5 p s m args c := E
  refine xj_loc (L' := [some (.inr (0, 0)), some (.inl kind), none, none, none]) rfl ?_
  have hni := hw.2.1
  have lp2 : ∀ (Q : State → Prop) (p1 n i : Nat) (μ1 : Mem), p1 < 9 → xni μ - i = n → i ≤ xni μ → frB μ μ1 → xCh μ1 (l0 ++ (sel (bdX μ FP kind) (xni μ) p1 i).map (eI μ)) → (∀ μ2, frB μ μ2 → xCh μ2 (l0 ++ (sel (bdX μ FP kind) (xni μ) p1 (xni μ)).map (eI μ)) → XJ G (xA G) 5 p l e (xr 3) s m args below meth c 0 0 Q 75 [some (.inr (0, 0)), some (.inl kind), some (.inl (nI (p1 + 1))), none, none] [] μ2) → XJ G (xA G) 5 p l e (xr 3) s m args below meth c 0 0 Q 10 [some (.inr (0, 0)), some (.inl kind), some (.inl (nI (p1 + 1))), some (.inl (nI i)), none] [] μ1 := by
    intro Q p1 n
    induction n using Nat.strongRecOn with
    | _ n ih =>
    intro i μ1 hp1 hn hi hfr hch hx
    have e2 : μ1 0 0 2 = nI (xni μ) := by rw [hfr.1 0 (by omega)]; exact hni.1
    have e8 := hfr.1 8 (by omega)
    refine xj_iload_n E d_X9_appendBound_10 rfl ?_
    refine xj_aload_n E d_X9_appendBound_11 rfl ?_
    refine xj_geti E fl_X9_64 (by decide) rfl (by decide) rfl d_X9_appendBound_12 ?_
    refine xj_icmp_ge (tgt := 75) E d_X9_appendBound_15 (by decide) (fun h15 => ?_) (fun h15 => ?_)
    · have hk8 : i = xni μ := by
        have := ge_nI (b := i) (by rw [← e2]; exact h15) (by omega) (by omega)
        omega
      subst hk8
      refine xj_forget 3 ?_
      exact hx _ hfr hch
    have hlt : i < xni μ := ng_nI (b := i) (by rw [← e2]; exact h15) (by omega) (by omega)
    refine xj_aload_n E d_X9_appendBound_18 rfl ?_
    refine xj_geta E fl_X9_18 (by decide) rfl (by decide) rfl d_X9_appendBound_19 ?_
    refine xj_iload_n E d_X9_appendBound_22 rfl ?_
    refine xj_aald E (by decide) rfl (show vp_in (nI i) 8 from in_nI (by omega) (by omega)) d_X9_appendBound_23 ?_
    refine xj_st (st' := [.inr (8, i)]) (by rw [cl_nI (by omega)]; try rfl) ?_
    refine xj_astore E d_X9_appendBound_24 (by decide) rfl ?_
    refine xj_aload E d_X9_appendBound_26 rfl ?_
    refine xj_geti E fl_X9_240 (by decide) rfl (by decide) rfl d_X9_appendBound_28 ?_
    refine xj_iload_n E d_X9_appendBound_31 rfl ?_
    refine xj_icmp_ne (tgt := 69) E d_X9_appendBound_32 (by decide) (fun h32 => ?_) (fun h32 => ?_)
    · refine xj_iinc (v := nI (i + 1)) E d_X9_appendBound_69 rfl (nI_inc i) rfl ?_
      refine xj_goto (tgt := 10) E d_X9_appendBound_72 (by decide) ?_
      refine xj_forget 4 ?_
      first
        | (refine ih (xni μ - (i + 1)) (by omega) (i + 1) _ hp1 rfl (by omega) ((hfr.tr (frB_mcl _ S)).tr (frB_ch hfr2)) ?_ hx
           have hbd : bdX μ FP kind p1 i = true := by unfold bdX; rw [← e8]; simp only [Bool.and_eq_true, decide_eq_true_eq]; exact ⟨h32, b01n h41, b10n h53⟩
           rw [sel_yes hbd, List.map_append, ← List.append_assoc]
           have e9 : mcl μ1 1 S 8 i 2 = μ 8 i 2 := by rw [mcl_f ⟨by decide, by decide, by decide⟩, e8]
           rw [e9] at hch2
           exact hch2)
        | (refine ih (xni μ - (i + 1)) (by omega) (i + 1) _ hp1 rfl (by omega) (hfr.tr (frB_mcl _ S)) ?_ hx
           have hbd : bdX μ FP kind p1 i = false := by unfold bdX; rw [b10 h53]; simp
           rw [sel_no hbd]
           exact xCh_mcl hch)
        | (refine ih (xni μ - (i + 1)) (by omega) (i + 1) _ hp1 rfl (by omega) hfr ?_ hx
           have hz := b01 h41
           rw [e8] at hz
           have hbd : bdX μ FP kind p1 i = false := by unfold bdX; simp [hz]
           rw [sel_no hbd]
           exact hch)
        | (refine ih (xni μ - (i + 1)) (by omega) (i + 1) _ hp1 rfl (by omega) hfr ?_ hx
           rw [e8] at h32
           have hbd : bdX μ FP kind p1 i = false := by unfold bdX; simp [h32]
           rw [sel_no hbd]
           exact hch)
    refine xj_aload E d_X9_appendBound_35 rfl ?_
    refine xj_iload_n E d_X9_appendBound_37 rfl ?_
    refine xj_callV E (k_X6_takesPartIn l G hI i kind _) cw_X9_234 cv_X6_takesPartIn (by decide) rfl rfl rfl ⟨by decide, by decide⟩ (Nat.le_of_ble_eq_true rfl) d_X9_appendBound_38 ⟨by decide, by decide⟩ (fun r38 μ38 ho38 hp38 => ?_)
    obtain ⟨rfl, hm38⟩ := hp38
    refine xj_mem hm38 ?_
    refine xj_if_eq (tgt := 69) E d_X9_appendBound_41 (by decide) (fun h41 => ?_) (fun h41 => ?_)
    · refine xj_iinc (v := nI (i + 1)) E d_X9_appendBound_69 rfl (nI_inc i) rfl ?_
      refine xj_goto (tgt := 10) E d_X9_appendBound_72 (by decide) ?_
      refine xj_forget 4 ?_
      first
        | (refine ih (xni μ - (i + 1)) (by omega) (i + 1) _ hp1 rfl (by omega) ((hfr.tr (frB_mcl _ S)).tr (frB_ch hfr2)) ?_ hx
           have hbd : bdX μ FP kind p1 i = true := by unfold bdX; rw [← e8]; simp only [Bool.and_eq_true, decide_eq_true_eq]; exact ⟨h32, b01n h41, b10n h53⟩
           rw [sel_yes hbd, List.map_append, ← List.append_assoc]
           have e9 : mcl μ1 1 S 8 i 2 = μ 8 i 2 := by rw [mcl_f ⟨by decide, by decide, by decide⟩, e8]
           rw [e9] at hch2
           exact hch2)
        | (refine ih (xni μ - (i + 1)) (by omega) (i + 1) _ hp1 rfl (by omega) (hfr.tr (frB_mcl _ S)) ?_ hx
           have hbd : bdX μ FP kind p1 i = false := by unfold bdX; rw [b10 h53]; simp
           rw [sel_no hbd]
           exact xCh_mcl hch)
        | (refine ih (xni μ - (i + 1)) (by omega) (i + 1) _ hp1 rfl (by omega) hfr ?_ hx
           have hz := b01 h41
           rw [e8] at hz
           have hbd : bdX μ FP kind p1 i = false := by unfold bdX; simp [hz]
           rw [sel_no hbd]
           exact hch)
        | (refine ih (xni μ - (i + 1)) (by omega) (i + 1) _ hp1 rfl (by omega) hfr ?_ hx
           rw [e8] at h32
           have hbd : bdX μ FP kind p1 i = false := by unfold bdX; simp [h32]
           rw [sel_no hbd]
           exact hch)
    refine xj_aload_n E d_X9_appendBound_44 rfl ?_
    refine xj_aload E d_X9_appendBound_45 rfl ?_
    refine xj_geta E fl_X9_119 (by decide) rfl (by decide) rfl d_X9_appendBound_47 ?_
    refine xj_callV E (k_X9_isInForce l G hI (i + 1) (xnt μ) FP _ (by rw [hfr.1.typ]; exact hw.1) (by rw [hfr.1.row]; exact hw.2.2.2.2.1 i hlt) (by rw [hfr.1.conf]; exact hcf i hlt) (by rw [hfr.2]; exact hF)) cw_X9_243 cv_X9_isInForce (by decide) rfl rfl rfl ⟨by decide, by decide⟩ (Nat.le_of_ble_eq_true rfl) d_X9_appendBound_50 ⟨by decide, by decide⟩ (fun r50 μ50 ho50 hp50 => ?_)
    rw [hfr.1.nb, hfr.1.pair] at hp50
    obtain ⟨rfl, S, rfl⟩ := hp50
    refine xj_if_eq (tgt := 69) E d_X9_appendBound_53 (by decide) (fun h53 => ?_) (fun h53 => ?_)
    · refine xj_iinc (v := nI (i + 1)) E d_X9_appendBound_69 rfl (nI_inc i) rfl ?_
      refine xj_goto (tgt := 10) E d_X9_appendBound_72 (by decide) ?_
      refine xj_forget 4 ?_
      first
        | (refine ih (xni μ - (i + 1)) (by omega) (i + 1) _ hp1 rfl (by omega) ((hfr.tr (frB_mcl _ S)).tr (frB_ch hfr2)) ?_ hx
           have hbd : bdX μ FP kind p1 i = true := by unfold bdX; rw [← e8]; simp only [Bool.and_eq_true, decide_eq_true_eq]; exact ⟨h32, b01n h41, b10n h53⟩
           rw [sel_yes hbd, List.map_append, ← List.append_assoc]
           have e9 : mcl μ1 1 S 8 i 2 = μ 8 i 2 := by rw [mcl_f ⟨by decide, by decide, by decide⟩, e8]
           rw [e9] at hch2
           exact hch2)
        | (refine ih (xni μ - (i + 1)) (by omega) (i + 1) _ hp1 rfl (by omega) (hfr.tr (frB_mcl _ S)) ?_ hx
           have hbd : bdX μ FP kind p1 i = false := by unfold bdX; rw [b10 h53]; simp
           rw [sel_no hbd]
           exact xCh_mcl hch)
        | (refine ih (xni μ - (i + 1)) (by omega) (i + 1) _ hp1 rfl (by omega) hfr ?_ hx
           have hz := b01 h41
           rw [e8] at hz
           have hbd : bdX μ FP kind p1 i = false := by unfold bdX; simp [hz]
           rw [sel_no hbd]
           exact hch)
        | (refine ih (xni μ - (i + 1)) (by omega) (i + 1) _ hp1 rfl (by omega) hfr ?_ hx
           rw [e8] at h32
           have hbd : bdX μ FP kind p1 i = false := by unfold bdX; simp [h32]
           rw [sel_no hbd]
           exact hch)
    refine xj_aload_n E d_X9_appendBound_56 rfl ?_
    refine xj_geta E fl_X9_50 (by decide) rfl (by decide) rfl d_X9_appendBound_57 ?_
    refine xj_iload_n E d_X9_appendBound_60 rfl ?_
    refine xj_aload E d_X9_appendBound_61 rfl ?_
    refine xj_geti E fl_X9_237 (by decide) rfl (by decide) rfl d_X9_appendBound_63 ?_
    refine xj_callV E (k_X2_add l G hI (nI i) _ (l0 ++ (sel (bdX μ FP kind) (xni μ) p1 i).map (eI μ)) _ (xCh_mcl hch) (by have := sel_lt (bdX_u μ FP kind) hp1 hlt (by unfold bdX; rw [← e8]; simp only [Bool.and_eq_true, decide_eq_true_eq]; exact ⟨h32, b01n h41, b10n h53⟩); simp; omega)) cw_X9_226 cv_X2_add (by decide) rfl rfl rfl ⟨by decide, by decide⟩ (Nat.le_of_ble_eq_true rfl) d_X9_appendBound_66 ⟨by decide, by decide⟩ (fun r66 μ66 ho66 hp66 => ?_)
    obtain ⟨rfl, hch2, hfr2⟩ := hp66
    refine xj_iinc (v := nI (i + 1)) E d_X9_appendBound_69 rfl (nI_inc i) rfl ?_
    refine xj_goto (tgt := 10) E d_X9_appendBound_72 (by decide) ?_
    refine xj_forget 4 ?_
    first
      | (refine ih (xni μ - (i + 1)) (by omega) (i + 1) _ hp1 rfl (by omega) ((hfr.tr (frB_mcl _ S)).tr (frB_ch hfr2)) ?_ hx
         have hbd : bdX μ FP kind p1 i = true := by unfold bdX; rw [← e8]; simp only [Bool.and_eq_true, decide_eq_true_eq]; exact ⟨h32, b01n h41, b10n h53⟩
         rw [sel_yes hbd, List.map_append, ← List.append_assoc]
         have e9 : mcl μ1 1 S 8 i 2 = μ 8 i 2 := by rw [mcl_f ⟨by decide, by decide, by decide⟩, e8]
         rw [e9] at hch2
         exact hch2)
      | (refine ih (xni μ - (i + 1)) (by omega) (i + 1) _ hp1 rfl (by omega) (hfr.tr (frB_mcl _ S)) ?_ hx
         have hbd : bdX μ FP kind p1 i = false := by unfold bdX; rw [b10 h53]; simp
         rw [sel_no hbd]
         exact xCh_mcl hch)
      | (refine ih (xni μ - (i + 1)) (by omega) (i + 1) _ hp1 rfl (by omega) hfr ?_ hx
         have hz := b01 h41
         rw [e8] at hz
         have hbd : bdX μ FP kind p1 i = false := by unfold bdX; simp [hz]
         rw [sel_no hbd]
         exact hch)
      | (refine ih (xni μ - (i + 1)) (by omega) (i + 1) _ hp1 rfl (by omega) hfr ?_ hx
         rw [e8] at h32
         have hbd : bdX μ FP kind p1 i = false := by unfold bdX; simp [h32]
         rw [sel_no hbd]
         exact hch)
  have lp1 : ∀ (Q : State → Prop) (n p1 : Nat) (μ1 : Mem), 9 - p1 = n → p1 ≤ 9 → frB μ μ1 → xCh μ1 (l0 ++ (sel (bdX μ FP kind) (xni μ) p1 0).map (eI μ)) → (∀ μ2, frB μ μ2 → xCh μ2 (l0 ++ (sel (bdX μ FP kind) (xni μ) 9 0).map (eI μ)) → XJ G (xA G) 5 p l e (xr 3) s m args below meth c 0 0 Q 81 [some (.inr (0, 0)), some (.inl kind), some (.inl (nI 10)), none, none] [] μ2) → XJ G (xA G) 5 p l e (xr 3) s m args below meth c 0 0 Q 2 [some (.inr (0, 0)), some (.inl kind), some (.inl (nI (p1 + 1))), none, none] [] μ1 := by
    intro Q n
    induction n using Nat.strongRecOn with
    | _ n ih =>
    intro p1 μ1 hn hp1 hfr hch hx
    refine xj_iload_n E d_X9_appendBound_2 rfl ?_
    refine xj_bipush (v := 9) E d_X9_appendBound_3 (by decide) ?_
    refine xj_icmp_gt (tgt := 81) E d_X9_appendBound_5 (by decide) (fun h5 => ?_) (fun h5 => ?_)
    · have hk8 : p1 = 9 := by
        have := (nI_ltI (a := 9) (b := p1 + 1) (by omega) (by omega)).mp h5
        omega
      subst hk8
      exact hx _ hfr hch
    have hlt : p1 < 9 := by
      have := Nat.not_lt.mp (fun q => h5 (nI_lt (a := 9) (b := p1 + 1) q (by omega)))
      omega
    refine xj_iconst (v := 0) E d_X9_appendBound_8 (by decide) ?_
    refine xj_istore_n E d_X9_appendBound_9 (by decide) rfl ?_
    refine lp2 Q p1 (xni μ) 0 μ1 hlt (by omega) (by omega) hfr hch (fun μ2 hfr2 hch2 => ?_)
    refine xj_iinc (v := nI (p1 + 1 + 1)) E d_X9_appendBound_75 rfl (nI_inc (p1 + 1)) rfl ?_
    refine xj_goto (tgt := 2) E d_X9_appendBound_78 (by decide) ?_
    exact ih (9 - (p1 + 1)) (by omega) (p1 + 1) _ rfl (by omega) hfr2 (by rw [← sel_next]; exact hch2) hx
  refine xj_iconst (v := 1) E d_X9_appendBound_0 (by decide) ?_
  refine xj_istore_n E d_X9_appendBound_1 (by decide) rfl ?_
  refine lp1 _ 9 0 μ rfl (by omega) (frB.rf μ) (by rw [sel_0]; simpa using hch) (fun μ2 hfr2 hch2 => ?_)
  exact xj_vret E hr hlk d_X9_appendBound_81 ⟨rfl, hfr2, hch2⟩

set_option maxRecDepth 100000 in
set_option maxHeartbeats 4000000 in
/-- X9 appendDecorators -/
theorem k_X9_appendDecorators (l : Launch) (G : XG) (hI : XI G) (ot y : Int32) (l0 : List (Int32 × Int32)) (μ : Mem) (hw : xWF μ) (hch : xCh μ l0) (hl0 : l0.length ≤ 16) : XMet l G y_X9_appendDecorators c_X9_appendDecorators 5 none 1 [.inr (0, 0), .inl ot, .inl y] μ (fun r μ' => r = none ∧ frB μ μ' ∧ xCh μ' (l0 ++ (sel (bdD μ ot y) (xnd μ) 9 0).map (eD μ))) := by
  refine xj_met (by decide) hI (Nat.le_of_ble_eq_true rfl) ?_
  intro p e s m args below meth c E hr hlk
  have E : XE G (xA G) RX9 c_X9_appendDecorators 5 p s m args c := E
  refine xj_loc (L' := [some (.inr (0, 0)), some (.inl ot), some (.inl y), none, none]) rfl ?_
  have hni := hw.2.2.1
  have lp2 : ∀ (Q : State → Prop) (p1 n i : Nat) (μ1 : Mem), p1 < 9 → xnd μ - i = n → i ≤ xnd μ → frB μ μ1 → xCh μ1 (l0 ++ (sel (bdD μ ot y) (xnd μ) p1 i).map (eD μ)) → (∀ μ2, frB μ μ2 → xCh μ2 (l0 ++ (sel (bdD μ ot y) (xnd μ) p1 (xnd μ)).map (eD μ)) → XJ G (xA G) 5 p l e (xr 1) s m args below meth c 0 0 Q 77 [some (.inr (0, 0)), some (.inl ot), some (.inl y), some (.inl (nI (p1 + 1))), none] [] μ2) → XJ G (xA G) 5 p l e (xr 1) s m args below meth c 0 0 Q 11 [some (.inr (0, 0)), some (.inl ot), some (.inl y), some (.inl (nI (p1 + 1))), some (.inl (nI i))] [] μ1 := by
    intro Q p1 n
    induction n using Nat.strongRecOn with
    | _ n ih =>
    intro i μ1 hp1 hn hi hfr hch hx
    have e2 : μ1 0 0 4 = nI (xnd μ) := by rw [hfr.1 0 (by omega)]; exact hni.1
    have e8 := hfr.1 10 (by omega)
    refine xj_iload E d_X9_appendDecorators_11 rfl ?_
    refine xj_aload_n E d_X9_appendDecorators_13 rfl ?_
    refine xj_geti E fl_X9_68 (by decide) rfl (by decide) rfl d_X9_appendDecorators_14 ?_
    refine xj_icmp_ge (tgt := 77) E d_X9_appendDecorators_17 (by decide) (fun h17 => ?_) (fun h17 => ?_)
    · have hk8 : i = xnd μ := by
        have := ge_nI (b := i) (by rw [← e2]; exact h17) (by omega) (by omega)
        omega
      subst hk8
      refine xj_forget 4 ?_
      exact hx _ hfr hch
    have hlt : i < xnd μ := ng_nI (b := i) (by rw [← e2]; exact h17) (by omega) (by omega)
    have hin : vp_in (nI i) 4 := in_nI (by omega) (by omega)
    have hcl : (nI i).toNatClampNeg = i := cl_nI (by omega)
    refine xj_aload_n E d_X9_appendDecorators_20 rfl ?_
    refine xj_geta E fl_X9_25 (by decide) rfl (by decide) rfl d_X9_appendDecorators_21 ?_
    refine xj_iload E d_X9_appendDecorators_24 rfl ?_
    refine xj_aald E (by decide) rfl hin d_X9_appendDecorators_26 ?_
    refine xj_st (st' := [.inr (10, i)]) (by rw [hcl]; try rfl) ?_
    refine xj_geti E fl_X9_251 (by decide) rfl (by decide) rfl d_X9_appendDecorators_27 ?_
    refine xj_iload_n E d_X9_appendDecorators_30 rfl ?_
    refine xj_icmp_ne (tgt := 71) E d_X9_appendDecorators_31 (by decide) (fun h31 => ?_) (fun h31 => ?_)
    · refine xj_iinc (v := nI (i + 1)) E d_X9_appendDecorators_71 rfl (nI_inc i) rfl ?_
      refine xj_goto (tgt := 11) E d_X9_appendDecorators_74 (by decide) ?_
      first
        | (refine ih (xnd μ - (i + 1)) (by omega) (i + 1) _ hp1 rfl (by omega) (hfr.tr (frB_ch hfr2)) ?_ hx
           rw [sel_yes hbd, List.map_append, ← List.append_assoc]
           rw [e8] at hch2
           exact hch2)
        | (refine ih (xnd μ - (i + 1)) (by omega) (i + 1) _ hp1 rfl (by omega) hfr ?_ hx
           have hbd : bdD μ ot y p1 i = false := by
             unfold bdD
             rw [← e8]
             simp only [Bool.and_eq_false_iff, decide_eq_false_iff_not]
             right
             intro q
             rw [if_neg q.1, if_neg q.2] at h46
             exact i1_0 h46
           rw [sel_no hbd]
           exact hch)
        | (refine ih (xnd μ - (i + 1)) (by omega) (i + 1) _ hp1 rfl (by omega) hfr ?_ hx
           rw [e8] at h31
           have hbd : bdD μ ot y p1 i = false := by unfold bdD; simp [h31]
           rw [sel_no hbd]
           exact hch)
    refine xj_aload_n E d_X9_appendDecorators_34 rfl ?_
    refine xj_geta E fl_X9_25 (by decide) rfl (by decide) rfl d_X9_appendDecorators_35 ?_
    refine xj_iload E d_X9_appendDecorators_38 rfl ?_
    refine xj_aald E (by decide) rfl hin d_X9_appendDecorators_40 ?_
    refine xj_st (st' := [.inr (10, i)]) (by rw [hcl]; try rfl) ?_
    refine xj_iload_n E d_X9_appendDecorators_41 rfl ?_
    refine xj_iload_n E d_X9_appendDecorators_42 rfl ?_
    refine xj_callV E (k_X5_decorates l G hI i ot y _) cw_X9_252 cv_X5_decorates (by decide) rfl rfl rfl ⟨by decide, by decide⟩ (Nat.le_of_ble_eq_true rfl) d_X9_appendDecorators_43 ⟨by decide, by decide⟩ (fun r43 μ43 ho43 hp43 => ?_)
    obtain ⟨rfl, hm43⟩ := hp43
    refine xj_mem hm43 ?_
    refine xj_if_eq (tgt := 71) E d_X9_appendDecorators_46 (by decide) (fun h46 => ?_) (fun h46 => ?_)
    · refine xj_iinc (v := nI (i + 1)) E d_X9_appendDecorators_71 rfl (nI_inc i) rfl ?_
      refine xj_goto (tgt := 11) E d_X9_appendDecorators_74 (by decide) ?_
      first
        | (refine ih (xnd μ - (i + 1)) (by omega) (i + 1) _ hp1 rfl (by omega) (hfr.tr (frB_ch hfr2)) ?_ hx
           rw [sel_yes hbd, List.map_append, ← List.append_assoc]
           rw [e8] at hch2
           exact hch2)
        | (refine ih (xnd μ - (i + 1)) (by omega) (i + 1) _ hp1 rfl (by omega) hfr ?_ hx
           have hbd : bdD μ ot y p1 i = false := by
             unfold bdD
             rw [← e8]
             simp only [Bool.and_eq_false_iff, decide_eq_false_iff_not]
             right
             intro q
             rw [if_neg q.1, if_neg q.2] at h46
             exact i1_0 h46
           rw [sel_no hbd]
           exact hch)
        | (refine ih (xnd μ - (i + 1)) (by omega) (i + 1) _ hp1 rfl (by omega) hfr ?_ hx
           rw [e8] at h31
           have hbd : bdD μ ot y p1 i = false := by unfold bdD; simp [h31]
           rw [sel_no hbd]
           exact hch)
    refine xj_aload_n E d_X9_appendDecorators_49 rfl ?_
    refine xj_geta E fl_X9_50 (by decide) rfl (by decide) rfl d_X9_appendDecorators_50 ?_
    refine xj_bipush (v := 16) E d_X9_appendDecorators_53 (by decide) ?_
    refine xj_iload E d_X9_appendDecorators_55 rfl ?_
    refine xj_iadd E d_X9_appendDecorators_57 ?_
    refine xj_st (st' := [.inl (nI (16 + i)), .inr (19, 0)]) (by rw [← nI_add]; rfl) ?_
    refine xj_aload_n E d_X9_appendDecorators_58 rfl ?_
    refine xj_geta E fl_X9_25 (by decide) rfl (by decide) rfl d_X9_appendDecorators_59 ?_
    refine xj_iload E d_X9_appendDecorators_62 rfl ?_
    refine xj_aald E (by decide) rfl hin d_X9_appendDecorators_64 ?_
    refine xj_st (st' := [.inr (10, i), .inl (nI (16 + i)), .inr (19, 0)]) (by rw [hcl]; try rfl) ?_
    have hbd : bdD μ ot y p1 i = true := by
      unfold bdD
      rw [← e8]
      simp only [Bool.and_eq_true, decide_eq_true_eq]
      refine ⟨h31, fun q => h46 (if_pos q), fun q => h46 ?_⟩
      split
      · rfl
      · rfl
    refine xj_geti E fl_X9_255 (by decide) rfl (by decide) rfl d_X9_appendDecorators_65 ?_
    refine xj_callV E (k_X2_add l G hI (nI (16 + i)) _ (l0 ++ (sel (bdD μ ot y) (xnd μ) p1 i).map (eD μ)) _ hch (by have := sel_lt (bdD_u μ ot y) hp1 hlt hbd; simp; omega)) cw_X9_226 cv_X2_add (by decide) rfl rfl rfl ⟨by decide, by decide⟩ (Nat.le_of_ble_eq_true rfl) d_X9_appendDecorators_68 ⟨by decide, by decide⟩ (fun r68 μ68 ho68 hp68 => ?_)
    obtain ⟨rfl, hch2, hfr2⟩ := hp68
    refine xj_iinc (v := nI (i + 1)) E d_X9_appendDecorators_71 rfl (nI_inc i) rfl ?_
    refine xj_goto (tgt := 11) E d_X9_appendDecorators_74 (by decide) ?_
    first
      | (refine ih (xnd μ - (i + 1)) (by omega) (i + 1) _ hp1 rfl (by omega) (hfr.tr (frB_ch hfr2)) ?_ hx
         rw [sel_yes hbd, List.map_append, ← List.append_assoc]
         rw [e8] at hch2
         exact hch2)
      | (refine ih (xnd μ - (i + 1)) (by omega) (i + 1) _ hp1 rfl (by omega) hfr ?_ hx
         have hbd : bdD μ ot y p1 i = false := by
           unfold bdD
           rw [← e8]
           simp only [Bool.and_eq_false_iff, decide_eq_false_iff_not]
           right
           intro q
           rw [if_neg q.1, if_neg q.2] at h46
           exact i1_0 h46
         rw [sel_no hbd]
         exact hch)
      | (refine ih (xnd μ - (i + 1)) (by omega) (i + 1) _ hp1 rfl (by omega) hfr ?_ hx
         rw [e8] at h31
         have hbd : bdD μ ot y p1 i = false := by unfold bdD; simp [h31]
         rw [sel_no hbd]
         exact hch)
  have lp1 : ∀ (Q : State → Prop) (n p1 : Nat) (μ1 : Mem), 9 - p1 = n → p1 ≤ 9 → frB μ μ1 → xCh μ1 (l0 ++ (sel (bdD μ ot y) (xnd μ) p1 0).map (eD μ)) → (∀ μ2, frB μ μ2 → xCh μ2 (l0 ++ (sel (bdD μ ot y) (xnd μ) 9 0).map (eD μ)) → XJ G (xA G) 5 p l e (xr 1) s m args below meth c 0 0 Q 83 [some (.inr (0, 0)), some (.inl ot), some (.inl y), some (.inl (nI 10)), none] [] μ2) → XJ G (xA G) 5 p l e (xr 1) s m args below meth c 0 0 Q 2 [some (.inr (0, 0)), some (.inl ot), some (.inl y), some (.inl (nI (p1 + 1))), none] [] μ1 := by
    intro Q n
    induction n using Nat.strongRecOn with
    | _ n ih =>
    intro p1 μ1 hn hp1 hfr hch hx
    refine xj_iload_n E d_X9_appendDecorators_2 rfl ?_
    refine xj_bipush (v := 9) E d_X9_appendDecorators_3 (by decide) ?_
    refine xj_icmp_gt (tgt := 83) E d_X9_appendDecorators_5 (by decide) (fun h5 => ?_) (fun h5 => ?_)
    · have hk8 : p1 = 9 := by
        have := (nI_ltI (a := 9) (b := p1 + 1) (by omega) (by omega)).mp h5
        omega
      subst hk8
      exact hx _ hfr hch
    have hlt : p1 < 9 := by
      have := Nat.not_lt.mp (fun q => h5 (nI_lt (a := 9) (b := p1 + 1) q (by omega)))
      omega
    refine xj_iconst (v := 0) E d_X9_appendDecorators_8 (by decide) ?_
    refine xj_istore E d_X9_appendDecorators_9 (by decide) rfl ?_
    refine lp2 Q p1 (xnd μ) 0 μ1 hlt (by omega) (by omega) hfr hch (fun μ2 hfr2 hch2 => ?_)
    refine xj_iinc (v := nI (p1 + 1 + 1)) E d_X9_appendDecorators_77 rfl (nI_inc (p1 + 1)) rfl ?_
    refine xj_goto (tgt := 2) E d_X9_appendDecorators_80 (by decide) ?_
    exact ih (9 - (p1 + 1)) (by omega) (p1 + 1) _ rfl (by omega) hfr2 (by rw [← sel_next]; exact hch2) hx
  refine xj_iconst (v := 1) E d_X9_appendDecorators_0 (by decide) ?_
  refine xj_istore_n E d_X9_appendDecorators_1 (by decide) rfl ?_
  refine lp1 _ 9 0 μ rfl (by omega) (frB.rf μ) (by rw [sel_0]; simpa using hch) (fun μ2 hfr2 hch2 => ?_)
  exact xj_vret E hr hlk d_X9_appendDecorators_83 ⟨rfl, hfr2, hch2⟩
end
section
theorem frS.ls {μ μ' : Mem} (h : frS μ μ') (q : Nat) (kind : Int32) : ∀ n, xLs μ' q kind n = xLs μ q kind n
  | 0 => rfl
  | n + 1 => by unfold xLs; rw [h.ls q kind n, h 8 (by omega), h 14 (by omega)]
theorem frS.ei {μ μ' : Mem} (h : frS μ μ') : eI μ' = eI μ := by funext i; simp only [eI]; rw [h 8 (by omega)]
theorem frS.ed {μ μ' : Mem} (h : frS μ μ') : eD μ' = eD μ := by funext i; simp only [eD]; rw [h 10 (by omega)]
theorem frS.bx {μ μ' : Mem} (h : frS μ μ') (FP : Nat → Int32 → Prop) (kind : Int32) : bdX μ' FP kind = bdX μ FP kind := by
  funext p i
  simp only [bdX]
  rw [h 8 (by omega), h.nb, h.pair]
theorem frS.bd {μ μ' : Mem} (h : frS μ μ') (ot y : Int32) : bdD μ' ot y = bdD μ ot y := by
  funext p i
  simp only [bdD]
  rw [h 10 (by omega)]
theorem frS.nt {μ μ' : Mem} (h : frS μ μ') : xnt μ' = xnt μ := by unfold xnt; rw [h 1 (by omega)]
theorem frS.ni {μ μ' : Mem} (h : frS μ μ') : xni μ' = xni μ := by unfold xni; rw [h 0 (by omega)]
theorem frS.nd {μ μ' : Mem} (h : frS μ μ') : xnd μ' = xnd μ := by unfold xnd; rw [h 0 (by omega)]
theorem frS.np {μ μ' : Mem} (h : frS μ μ') : xnp μ' = xnp μ := by unfold xnp; rw [h 0 (by omega)]
theorem frS.nl {μ μ' : Mem} (h : frS μ μ') (q : Nat) : xnl μ' q = xnl μ q := by unfold xnl; rw [h 13 (by omega)]
/-- what is in force for a method or an event -/
def xFP (μ : Mem) (j mm t : Nat) (v : Int32) : Prop := if mm < 4 then xPair μ (5 * j + 1 + mm + 9) t v ∨ (xPair μ (5 * j + 9) t v ∧ ¬ ∃ v', xPair μ (5 * j + 1 + mm + 9) t v') else xPair μ (5 * j + 9) t v
theorem xFP_m {μ : Mem} {j mm : Nat} (h : mm < 4) : xFP μ j mm = fun t v => xPair μ (5 * j + 1 + mm + 9) t v ∨ (xPair μ (5 * j + 9) t v ∧ ¬ ∃ v', xPair μ (5 * j + 1 + mm + 9) t v') := by
  funext t v; unfold xFP; rw [if_pos h]
theorem xFP_e {μ : Mem} {j mm : Nat} (h : ¬ mm < 4) : xFP μ j mm = fun t v => xPair μ (5 * j + 9) t v := by
  funext t v; unfold xFP; rw [if_neg h]
/-- the chain of a method or an event -/
noncomputable def xChn (μ : Mem) (j mm : Nat) : List (Int32 × Int32) :=
  if mm < 4 then (if μ 13 (5 * j + 1 + mm) 3 &&& 2 = 0 then (xLs μ (5 * j) 1 (xnl μ (5 * j))).map (eI μ) else []) ++ (xLs μ (5 * j + 1 + mm) 1 (xnl μ (5 * j + 1 + mm))).map (eI μ) ++ (sel (bdX μ (xFP μ j mm) 1) (xni μ) 9 0).map (eI μ) ++ (sel (bdD μ (μ 12 j 0) (nI mm)) (xnd μ) 9 0).map (eD μ) ++ [(32, 0)]
  else (xLs μ (5 * j) ((2 : Int32) <<< ((nI mm - 4) &&& 31)) (xnl μ (5 * j))).map (eI μ) ++ (sel (bdX μ (xFP μ j mm) ((2 : Int32) <<< ((nI mm - 4) &&& 31))) (xni μ) 9 0).map (eI μ) ++ [(32, 0)]
/-- no row has a conflict -/
def xNC (μ : Mem) : Prop := (∀ i, i < xni μ → ¬ xConf μ (i + 1)) ∧ ∀ q, q < 5 * xnp μ → ¬ xConf μ (q + 9)
theorem xCh_nil (μ : Mem) : xCh (mset μ 19 0 0 0) [] := ⟨mset_at _ _ _ _ _, fun k q h => by simp at h⟩
theorem frS_19 (μ : Mem) (i j : Nat) (x : Int32) : frS μ (mset μ 19 i j x) := fun f hf => mset_f (by omega)

set_option maxRecDepth 100000 in
set_option maxHeartbeats 4000000 in
/-- X9 buildChain -/
theorem k_X9_buildChain (l : Launch) (G : XG) (hI : XI G) (j mm : Nat) (μ : Mem) (hw : xWF μ) (hnc : xNC μ) (hj : j < xnp μ) (hm7 : mm < 7) : XMet l G y_X9_buildChain c_X9_buildChain 4 none 4 [.inr (0, 0), .inr (12, j), .inl (nI mm)] μ (fun r μ' => r = none ∧ frS μ μ' ∧ xCh μ' (xChn μ j mm)) := by
  refine xj_met (by decide) hI (Nat.le_of_ble_eq_true rfl) ?_
  intro p e s m args below meth c E hr hlk
  have E : XE G (xA G) RX9 c_X9_buildChain 4 p s m args c := E
  refine xj_loc (L' := [some (.inr (0, 0)), some (.inr (12, j)), some (.inl (nI mm)), none]) rfl ?_
  have fa := frS_19 μ 0 0 0
  have hnp := hw.2.2.2.1
  have hni := hw.2.1
  have hnd := hw.2.2.1
  have hq0 := hw.2.2.2.2.2 (5 * j) (by omega)
  have hR0 := hq0.1
  have hq02 := hq0.2.1.2
  refine xj_aload_n E d_X9_buildChain_0 rfl ?_
  refine xj_geta E fl_X9_50 (by decide) rfl (by decide) rfl d_X9_buildChain_1 ?_
  refine xj_iconst (v := 0) E d_X9_buildChain_4 (by decide) ?_
  refine xj_put E fp_X9_162 (by decide) rfl (by decide) rfl (narrow_i _) d_X9_buildChain_5 ?_
  refine xj_iload_n E d_X9_buildChain_8 rfl ?_
  refine xj_iconst (v := 4) E d_X9_buildChain_9 (by decide) ?_
  refine xj_icmp_lt (tgt := 54) E d_X9_buildChain_10 (by decide) (fun h10 => ?_) (fun h10 => ?_)
  · have hmm : mm < 4 := (nI_ltI (a := mm) (b := 4) (by omega) (by omega)).mp h10
    have hq1 := hw.2.2.2.2.2 (5 * j + 1 + mm) (by omega)
    have hq12 := hq1.2.1.2
    have hl1 := xLs_len μ (5 * j) 1 (xnl μ (5 * j))
    have hl2 := xLs_len μ (5 * j + 1 + mm) 1 (xnl μ (5 * j + 1 + mm))
    have hl3 := sel_len (n := xni μ) (i := 0) (bdX_u μ (xFP μ j mm) 1) (Nat.le_refl 9) (by omega) (Or.inr rfl)
    have hl4 := sel_len (n := xnd μ) (i := 0) (bdD_u μ (μ 12 j 0) (nI mm)) (Nat.le_refl 9) (by omega) (Or.inr rfl)
    have hA1 : (if μ 13 (5 * j + 1 + mm) 3 &&& 2 = 0 then (xLs μ (5 * j) 1 (xnl μ (5 * j))).map (eI μ) else []).length ≤ 4 := by
      split
      · rw [List.length_map]; omega
      · simp
    have hrest : ∀ μ3, frS μ μ3 → (∀ t, t < 8 → ∀ v, (¬ (dS μ3 0).1 t = 0 ∧ (dS μ3 0).2.1 t = v) ↔ (xPair μ (5 * j + 1 + mm + 9) t v ∨ (xPair μ (5 * j + 9) t v ∧ ¬ ∃ v', xPair μ (5 * j + 1 + mm + 9) t v'))) → xCh μ3 (if μ 13 (5 * j + 1 + mm) 3 &&& 2 = 0 then (xLs μ (5 * j) 1 (xnl μ (5 * j))).map (eI μ) else []) → XJ G (xA G) 4 p l e (xr 4) s m args below meth c 0 0 (MQ below (xQ G (fun r μ' => r = none ∧ frS μ μ' ∧ xCh μ' (xChn μ j mm))) args s 0 0 (xA G)) 83 [some (.inr (0, 0)), some (.inr (12, j)), some (.inl (nI mm)), some (.inr (13, 5 * j + 1 + mm))] [] μ3 := by
      intro μ3 fc hF3 hch3
      refine xj_aload_n E d_X9_buildChain_83 rfl ?_
      refine xj_aload_n E d_X9_buildChain_84 rfl ?_
      refine xj_iconst (v := 1) E d_X9_buildChain_85 (by decide) ?_
      refine xj_callV E (k_X9_appendListed l G hI (5 * j + 1 + mm) 1 _ _ (fc.wf hw) (by rw [fc.np]; omega) hch3 hA1) cw_X9_210 cv_X9_appendListed (by decide) rfl rfl rfl ⟨by decide, by decide⟩ (Nat.le_of_ble_eq_true rfl) d_X9_buildChain_86 ⟨by decide, by decide⟩ (fun r86 μ86 ho86 hp86 => ?_)
      obtain ⟨rfl, hfr4, hch4⟩ := hp86
      have fd := fc.tr hfr4.1
      rw [fc.nl, fc.ls, fc.ei] at hch4
      refine xj_aload_n E d_X9_buildChain_89 rfl ?_
      refine xj_iconst (v := 1) E d_X9_buildChain_90 (by decide) ?_
      refine xj_callV E (k_X9_appendBound l G hI 1 (xFP μ j mm) _ _ (fd.wf hw) (by rw [fd.ni]; intro i hi; rw [fd.conf]; exact hnc.1 i hi) (by rw [hfr4.2, xFP_m hmm]; exact hF3) hch4 (by rw [List.length_append, List.length_map]; omega)) cw_X9_214 cv_X9_appendBound (by decide) rfl rfl rfl ⟨by decide, by decide⟩ (Nat.le_of_ble_eq_true rfl) d_X9_buildChain_91 ⟨by decide, by decide⟩ (fun r91 μ91 ho91 hp91 => ?_)
      obtain ⟨rfl, hfr5, hch5⟩ := hp91
      have fe := fd.tr hfr5.1
      rw [fd.ni, fd.bx, fd.ei] at hch5
      refine xj_aload_n E d_X9_buildChain_94 rfl ?_
      refine xj_aload_n E d_X9_buildChain_95 rfl ?_
      refine xj_geti E fl_X9_221 (by decide) rfl (by decide) rfl d_X9_buildChain_96 ?_
      refine xj_iload_n E d_X9_buildChain_99 rfl ?_
      refine xj_callV E (k_X9_appendDecorators l G hI _ (nI mm) _ _ (fe.wf hw) hch5 (by simp only [List.length_append, List.length_map]; omega)) cw_X9_223 cv_X9_appendDecorators (by decide) rfl rfl rfl ⟨by decide, by decide⟩ (Nat.le_of_ble_eq_true rfl) d_X9_buildChain_100 ⟨by decide, by decide⟩ (fun r100 μ100 ho100 hp100 => ?_)
      obtain ⟨rfl, hfr6, hch6⟩ := hp100
      have ff := fe.tr hfr6.1
      rw [fe.nd, fe.bd, fe.ed, fe 12 (by omega)] at hch6
      refine xj_aload_n E d_X9_buildChain_103 rfl ?_
      refine xj_geta E fl_X9_50 (by decide) rfl (by decide) rfl d_X9_buildChain_104 ?_
      refine xj_bipush (v := 32) E d_X9_buildChain_107 (by decide) ?_
      refine xj_iconst (v := 0) E d_X9_buildChain_109 (by decide) ?_
      refine xj_callV E (k_X2_add l G hI 32 0 _ _ hch6 (by simp only [List.length_append, List.length_map]; omega)) cw_X9_226 cv_X2_add (by decide) rfl rfl rfl ⟨by decide, by decide⟩ (Nat.le_of_ble_eq_true rfl) d_X9_buildChain_110 ⟨by decide, by decide⟩ (fun r110 μ110 ho110 hp110 => ?_)
      obtain ⟨rfl, hch7, hfr7⟩ := hp110
      exact xj_vret E hr hlk d_X9_buildChain_113 ⟨rfl, ff.tr (frB_ch hfr7).1, by unfold xChn; rw [if_pos hmm]; exact hch7⟩
    refine xj_aload_n E d_X9_buildChain_54 rfl ?_
    refine xj_iload_n E d_X9_buildChain_55 rfl ?_
    refine xj_callV E (k_X4_place l G hI j (nI mm) _) cw_X9_129 cv_X4_place (by decide) rfl rfl rfl ⟨by decide, by decide⟩ (Nat.le_of_ble_eq_true rfl) d_X9_buildChain_56 ⟨by decide, by decide⟩ (fun r56 μ56 ho56 hp56 => ?_)
    obtain ⟨rfl, hm56⟩ := hp56
    refine xj_mem hm56 ?_
    refine xj_st (st' := [.inr (13, 5 * j + 1 + mm)]) (by rw [if_neg (nI_pos (by omega)), if_pos h10, cl_nI (by omega)]; try rfl) ?_
    refine xj_astore_n E d_X9_buildChain_59 (by decide) rfl ?_
    refine xj_aload_n E d_X9_buildChain_60 rfl ?_
    refine xj_aload_n E d_X9_buildChain_61 rfl ?_
    refine xj_aload_n E d_X9_buildChain_62 rfl ?_
    refine xj_callV E (k_X9_findInForceForMethod l G hI j (5 * j + 1 + mm) (xnt μ) _ (by rw [fa.typ]; exact hw.1) (by rw [fa.row]; exact (hw.2.2.2.2.2 _ (by omega)).1) (by rw [fa.row]; exact hR0) (by rw [fa.conf]; exact hnc.2 _ (by omega)) (by rw [fa.conf]; exact hnc.2 _ (by omega))) cw_X9_217 cv_X9_findInForceForMethod (by decide) rfl rfl rfl ⟨by decide, by decide⟩ (Nat.le_of_ble_eq_true rfl) d_X9_buildChain_63 ⟨by decide, by decide⟩ (fun r63 μ63 ho63 hp63 => ?_)
    obtain ⟨rfl, hfr1, hk1, hF1⟩ := hp63
    have fb := fa.tr hfr1
    simp only [fa.pair] at hF1
    have hch1 : xCh μ63 [] := xCh_keep (xCh_nil μ) (hk1 19 (by decide)) (hk1 20 (by decide)) (hk1 21 (by decide))
    refine xj_aload_n E d_X9_buildChain_66 rfl ?_
    refine xj_iconst (v := 2) E d_X9_buildChain_67 (by decide) ?_
    refine xj_callV E (k_X8_has l G hI (5 * j + 1 + mm) 2 _) cw_X9_171 cv_X8_has (by decide) rfl rfl rfl ⟨by decide, by decide⟩ (Nat.le_of_ble_eq_true rfl) d_X9_buildChain_68 ⟨by decide, by decide⟩ (fun r68 μ68 ho68 hp68 => ?_)
    obtain ⟨rfl, hm68⟩ := hp68
    refine xj_mem hm68 ?_
    refine xj_if_ne (tgt := 83) E d_X9_buildChain_71 (by decide) (fun h71 => ?_) (fun h71 => ?_)
    · refine hrest _ ?_ ?_ ?_
      · first | exact fc | exact fb
      · first
          | (rw [hfr3.2]; exact hF1)
          | exact hF1
      · first
          | (have hz := b01 h71
             rw [fb 13 (by omega)] at hz
             rw [if_pos hz]
             exact hch3)
          | (have hz := b01n h71
             rw [fb 13 (by omega)] at hz
             rw [if_neg hz]
             exact hch1)
    refine xj_aload_n E d_X9_buildChain_74 rfl ?_
    refine xj_aload_n E d_X9_buildChain_75 rfl ?_
    refine xj_geta E fl_X9_199 (by decide) rfl (by decide) rfl d_X9_buildChain_76 ?_
    refine xj_iconst (v := 1) E d_X9_buildChain_79 (by decide) ?_
    refine xj_callV E (k_X9_appendListed l G hI (5 * j) 1 [] _ (fb.wf hw) (by rw [fb.np]; omega) hch1 (by simp)) cw_X9_210 cv_X9_appendListed (by decide) rfl rfl rfl ⟨by decide, by decide⟩ (Nat.le_of_ble_eq_true rfl) d_X9_buildChain_80 ⟨by decide, by decide⟩ (fun r80 μ80 ho80 hp80 => ?_)
    obtain ⟨rfl, hfr3, hch3⟩ := hp80
    have fc := fb.tr hfr3.1
    rw [fb.nl, fb.ls, fb.ei, List.nil_append] at hch3
    refine hrest _ ?_ ?_ ?_
    · first | exact fc | exact fb
    · first
        | (rw [hfr3.2]; exact hF1)
        | exact hF1
    · first
        | (have hz := b01 h71
           rw [fb 13 (by omega)] at hz
           rw [if_pos hz]
           exact hch3)
        | (have hz := b01n h71
           rw [fb 13 (by omega)] at hz
           rw [if_neg hz]
           exact hch1)
  have hmm : ¬ mm < 4 := fun q => h10 (nI_lt (b := 4) q (by omega))
  refine xj_iconst (v := 2) E d_X9_buildChain_13 (by decide) ?_
  refine xj_iload_n E d_X9_buildChain_14 rfl ?_
  refine xj_iconst (v := 4) E d_X9_buildChain_15 (by decide) ?_
  refine xj_isub E d_X9_buildChain_16 ?_
  refine xj_ishl E d_X9_buildChain_17 ?_
  refine xj_istore_n E d_X9_buildChain_18 (by decide) rfl ?_
  refine xj_aload_n E d_X9_buildChain_19 rfl ?_
  refine xj_geta E fl_X9_10 (by decide) rfl (by decide) rfl d_X9_buildChain_20 ?_
  refine xj_aload_n E d_X9_buildChain_23 rfl ?_
  refine xj_geta E fl_X9_199 (by decide) rfl (by decide) rfl d_X9_buildChain_24 ?_
  refine xj_geta E fl_X9_133 (by decide) rfl (by decide) rfl d_X9_buildChain_27 ?_
  refine xj_aload_n E d_X9_buildChain_30 rfl ?_
  refine xj_geta E fl_X9_40 (by decide) rfl (by decide) rfl d_X9_buildChain_31 ?_
  refine xj_callV E (k_X0_close l G hI (5 * j + 9) 0 (xnt μ) _ (by rw [fa.typ]; exact hw.1) (by rw [fa.row]; exact hR0)) cw_X9_203 cv_X0_close (by decide) rfl rfl rfl ⟨by decide, by decide⟩ (Nat.le_of_ble_eq_true rfl) d_X9_buildChain_34 ⟨by decide, by decide⟩ (fun r34 μ34 ho34 hp34 => ?_)
  obtain ⟨rfl, S, hm34, hS⟩ := hp34
  refine xj_mem hm34 ?_
  rw [fa.clok] at hS
  have fb := fa.tr (frS_mcl (mset μ 19 0 0 0) 0 S)
  refine xj_aload_n E d_X9_buildChain_37 rfl ?_
  refine xj_aload_n E d_X9_buildChain_38 rfl ?_
  refine xj_geta E fl_X9_199 (by decide) rfl (by decide) rfl d_X9_buildChain_39 ?_
  refine xj_iload_n E d_X9_buildChain_42 rfl ?_
  refine xj_callV E (k_X9_appendListed l G hI (5 * j) _ [] _ (fb.wf hw) (by rw [fb.np]; omega) (xCh_mcl (xCh_nil μ)) (by simp)) cw_X9_210 cv_X9_appendListed (by decide) rfl rfl rfl ⟨by decide, by decide⟩ (Nat.le_of_ble_eq_true rfl) d_X9_buildChain_43 ⟨by decide, by decide⟩ (fun r43 μ43 ho43 hp43 => ?_)
  obtain ⟨rfl, hfr3, hch3⟩ := hp43
  have fc := fb.tr hfr3.1
  rw [fb.nl, fb.ls, fb.ei, List.nil_append] at hch3
  refine xj_aload_n E d_X9_buildChain_46 rfl ?_
  refine xj_iload_n E d_X9_buildChain_47 rfl ?_
  refine xj_callV E (k_X9_appendBound l G hI _ (xFP μ j mm) _ _ (fc.wf hw) (by rw [fc.ni]; intro i hi; rw [fc.conf]; exact hnc.1 i hi) (by rw [hfr3.2, dS_mcl, xFP_e hmm]; exact xForce1 hS (hnc.2 _ (by omega))) hch3 (by have := xLs_len μ (5 * j) ((2 : Int32) <<< ((nI mm - 4) &&& 31)) (xnl μ (5 * j)); simp; omega)) cw_X9_214 cv_X9_appendBound (by decide) rfl rfl rfl ⟨by decide, by decide⟩ (Nat.le_of_ble_eq_true rfl) d_X9_buildChain_48 ⟨by decide, by decide⟩ (fun r48 μ48 ho48 hp48 => ?_)
  obtain ⟨rfl, hfr4, hch4⟩ := hp48
  have fd := fc.tr hfr4.1
  rw [fc.ni, fc.bx, fc.ei] at hch4
  refine xj_goto (tgt := 103) E d_X9_buildChain_51 (by decide) ?_
  refine xj_aload_n E d_X9_buildChain_103 rfl ?_
  refine xj_geta E fl_X9_50 (by decide) rfl (by decide) rfl d_X9_buildChain_104 ?_
  refine xj_bipush (v := 32) E d_X9_buildChain_107 (by decide) ?_
  refine xj_iconst (v := 0) E d_X9_buildChain_109 (by decide) ?_
  refine xj_callV E (k_X2_add l G hI 32 0 _ _ hch4 (by have h1 := xLs_len μ (5 * j) ((2 : Int32) <<< ((nI mm - 4) &&& 31)) (xnl μ (5 * j)); have h2 := sel_len (n := xni μ) (i := 0) (bdX_u μ (xFP μ j mm) ((2 : Int32) <<< ((nI mm - 4) &&& 31))) (Nat.le_refl 9) (by omega) (Or.inr rfl); simp; omega)) cw_X9_226 cv_X2_add (by decide) rfl rfl rfl ⟨by decide, by decide⟩ (Nat.le_of_ble_eq_true rfl) d_X9_buildChain_110 ⟨by decide, by decide⟩ (fun r110 μ110 ho110 hp110 => ?_)
  obtain ⟨rfl, hch5, hfr5⟩ := hp110
  exact xj_vret E hr hlk d_X9_buildChain_113 ⟨rfl, fd.tr (frB_ch hfr5).1, by unfold xChn; rw [if_neg hmm]; exact hch5⟩
end
section
/-- the first k below n of which P is said, by f; else 0 -/
def firstN (P : Nat → Prop) (n : Nat) (f : Nat → Int32) (x : Int32) : Prop := (∃ k, k < n ∧ P k ∧ (∀ k', k' < k → ¬ P k') ∧ x = f k) ∨ ((∀ k, k < n → ¬ P k) ∧ x = 0)
theorem firstN.none {P : Nat → Prop} {n : Nat} {f : Nat → Int32} {x : Int32} (h : firstN P n f x) (hf : ∀ k, k < n → f k ≠ 0) (hx : x = 0) : ∀ k, k < n → ¬ P k := by
  rcases h with ⟨k, hk, -, -, e⟩ | ⟨h, -⟩
  · exact absurd (e.symm.trans hx) (hf k hk)
  · exact h
theorem firstN.uniq {P P' : Nat → Prop} {n : Nat} {f f' : Nat → Int32} {x x' : Int32} (h : firstN P n f x) (h' : firstN P' n f' x') (hp : ∀ k, k < n → (P k ↔ P' k)) (hf : ∀ k, k < n → f k = f' k) : x = x' := by
  rcases h with ⟨k, hk, h1, h2, e⟩ | ⟨h1, e⟩
  · rcases h' with ⟨k', hk', h1', h2', e'⟩ | ⟨h1', e'⟩
    · have : k = k' := by
        rcases Nat.lt_trichotomy k k' with q | q | q
        · exact absurd ((hp k hk).mp h1) (h2' k q)
        · exact q
        · exact absurd ((hp k' hk').mpr h1') (h2 k' q)
      subst this
      rw [e, e', hf k hk]
    · exact absurd ((hp k hk).mp h1) (h1' k hk)
  · rcases h' with ⟨k', hk', h1', h2', e'⟩ | ⟨h1', e'⟩
    · exact absurd ((hp k' hk').mpr h1') (h1 k' hk')
    · rw [e, e']
theorem lt4 {k : Nat} (h : k < 4) : nI k < 4 := nI_lt (b := 4) h (by omega)
theorem nI_nz {k : Nat} (h : k ≤ 1000) (h0 : 0 < k) : nI k ≠ 0 := fun q => nI_ne0 h0 (by omega) q

set_option maxRecDepth 100000 in
set_option maxHeartbeats 4000000 in
/-- X9 findConflictOfInterceptor -/
theorem k_X9_findConflictOfInterceptor (l : Launch) (G : XG) (hI : XI G)  (μ : Mem) (hw : xWF μ) : XMet l G y_X9_findConflictOfInterceptor c_X9_findConflictOfInterceptor 2 (some .int) 3 [.inr (0, 0)] μ (fun r μ' => ∃ x : Int32, r = some (.inl x) ∧ firstN (fun i => xConf μ (i + 1)) (xni μ) (fun i => nI (100 + i)) x ∧ frS μ μ') := by
  refine xj_met (by decide) hI (Nat.le_of_ble_eq_true rfl) ?_
  intro p e s m args below meth c E hr hlk
  have E : XE G (xA G) RX9 c_X9_findConflictOfInterceptor 2 p s m args c := E
  refine xj_loc (L' := [some (.inr (0, 0)), none]) rfl ?_
  have hni := hw.2.1
  have lp : ∀ (Q : State → Prop) (n k : Nat) (μ1 : Mem), xni μ - k = n → k ≤ xni μ → frS μ μ1 → (∀ i, i < k → ¬ xConf μ (i + 1)) → (∀ μ2, frS μ μ2 → (∀ i, i < xni μ → ¬ xConf μ (i + 1)) → XJ G (xA G) 2 p l e (xr 3) s m args below meth c 0 0 Q 37 [some (.inr (0, 0)), some (.inl (nI (xni μ)))] [] μ2) → (∀ k μ2, frS μ μ2 → k < xni μ → xConf μ (k + 1) → (∀ i, i < k → ¬ xConf μ (i + 1)) → XJ G (xA G) 2 p l e (xr 3) s m args below meth c 0 0 Q 26 [some (.inr (0, 0)), some (.inl (nI k))] [] μ2) → XJ G (xA G) 2 p l e (xr 3) s m args below meth c 0 0 Q 2 [some (.inr (0, 0)), some (.inl (nI k))] [] μ1 := by
    intro Q n
    induction n using Nat.strongRecOn with
    | _ n ih =>
    intro k μ1 hn hk hfr hinv hx hy
    have e2 : μ1 0 0 2 = nI (xni μ) := by rw [hfr 0 (by omega)]; exact hni.1
    refine xj_iload_n E d_X9_findConflictOfInterceptor_2 rfl ?_
    refine xj_aload_n E d_X9_findConflictOfInterceptor_3 rfl ?_
    refine xj_geti E fl_X9_64 (by decide) rfl (by decide) rfl d_X9_findConflictOfInterceptor_4 ?_
    refine xj_icmp_ge (tgt := 37) E d_X9_findConflictOfInterceptor_7 (by decide) (fun h7 => ?_) (fun h7 => ?_)
    · have hk8 : k = xni μ := by
        have := ge_nI (b := k) (by rw [← e2]; exact h7) (by omega) (by omega)
        omega
      subst hk8
      exact hx _ hfr hinv
    have hlt : k < xni μ := ng_nI (b := k) (by rw [← e2]; exact h7) (by omega) (by omega)
    refine xj_aload_n E d_X9_findConflictOfInterceptor_10 rfl ?_
    refine xj_aload_n E d_X9_findConflictOfInterceptor_11 rfl ?_
    refine xj_geta E fl_X9_18 (by decide) rfl (by decide) rfl d_X9_findConflictOfInterceptor_12 ?_
    refine xj_iload_n E d_X9_findConflictOfInterceptor_15 rfl ?_
    refine xj_aald E (by decide) rfl (show vp_in (nI k) 8 from in_nI (by omega) (by omega)) d_X9_findConflictOfInterceptor_16 ?_
    refine xj_st (st' := [.inr (8, k), .inr (0, 0)]) (by rw [cl_nI (by omega)]; try rfl) ?_
    refine xj_geta E fl_X9_119 (by decide) rfl (by decide) rfl d_X9_findConflictOfInterceptor_17 ?_
    refine xj_callV E (k_X9_hasConflict l G hI (k + 1) (xnt μ) _ (by rw [hfr.typ]; exact hw.1) (by rw [hfr.row]; exact hw.2.2.2.2.1 k hlt)) cw_X9_195 cv_X9_hasConflict (by decide) rfl rfl rfl ⟨by decide, by decide⟩ (Nat.le_of_ble_eq_true rfl) d_X9_findConflictOfInterceptor_20 ⟨by decide, by decide⟩ (fun r20 μ20 ho20 hp20 => ?_)
    obtain ⟨x, rfl, hx01, hxi, hfr2⟩ := hp20
    rw [hfr.conf] at hxi
    refine xj_st (st' := [.inl x]) rfl ?_
    refine xj_if_eq (tgt := 31) E d_X9_findConflictOfInterceptor_23 (by decide) (fun h23 => ?_) (fun h23 => ?_)
    · refine xj_iinc (v := nI (k + 1)) E d_X9_findConflictOfInterceptor_31 rfl (nI_inc k) rfl ?_
      refine xj_goto (tgt := 2) E d_X9_findConflictOfInterceptor_34 (by decide) ?_
      exact ih (xni μ - (k + 1)) (by omega) (k + 1) _ rfl (by omega) (hfr.tr hfr2) (fun i hi => by
        by_cases q : i = k
        · subst q; intro z; rw [h23] at hxi; exact i0_1 (hxi.mpr z)
        · exact hinv i (by omega)) hx hy
    exact hy k _ (hfr.tr hfr2) hlt (hxi.mp (hx01.resolve_left h23)) hinv
  refine xj_iconst (v := 0) E d_X9_findConflictOfInterceptor_0 (by decide) ?_
  refine xj_istore_n E d_X9_findConflictOfInterceptor_1 (by decide) rfl ?_
  refine lp _ (xni μ) 0 μ (by omega) (by omega) (frS.rf μ) (fun i hi => by omega) (fun μ2 hfr2 hno => ?_) (fun k μ2 hfr2 hk hyes hno => ?_)
  · refine xj_iconst (v := 0) E d_X9_findConflictOfInterceptor_37 (by decide) ?_
    exact xj_iret E hr hlk d_X9_findConflictOfInterceptor_38 ⟨0, rfl, Or.inr ⟨hno, rfl⟩, hfr2⟩
  · refine xj_bipush (v := 100) E d_X9_findConflictOfInterceptor_26 (by decide) ?_
    refine xj_iload_n E d_X9_findConflictOfInterceptor_28 rfl ?_
    refine xj_iadd E d_X9_findConflictOfInterceptor_29 ?_
    exact xj_iret E hr hlk d_X9_findConflictOfInterceptor_30 ⟨_, rfl, Or.inl ⟨k, hk, hyes, hno, (nI_add 100 k)⟩, hfr2⟩

set_option maxRecDepth 100000 in
set_option maxHeartbeats 4000000 in
/-- X9 findConflictOfComponent -/
theorem k_X9_findConflictOfComponent (l : Launch) (G : XG) (hI : XI G)  (μ : Mem) (hw : xWF μ) : XMet l G y_X9_findConflictOfComponent c_X9_findConflictOfComponent 3 (some .int) 3 [.inr (0, 0)] μ (fun r μ' => ∃ x : Int32, r = some (.inl x) ∧ firstN (fun q => xConf μ (q + 9)) (5 * xnp μ) (fun q => nI (200 + 8 * (q / 5) + q % 5)) x ∧ frS μ μ') := by
  refine xj_met (by decide) hI (Nat.le_of_ble_eq_true rfl) ?_
  intro p e s m args below meth c E hr hlk
  have E : XE G (xA G) RX9 c_X9_findConflictOfComponent 3 p s m args c := E
  refine xj_loc (L' := [some (.inr (0, 0)), none, none]) rfl ?_
  have hnp := hw.2.2.2.1
  have lp2 : ∀ (Q : State → Prop) (j n k : Nat) (μ1 : Mem), j < xnp μ → 4 - k = n → k ≤ 4 → frS μ μ1 → (∀ z, z < 5 * j + 1 + k → ¬ xConf μ (z + 9)) → (∀ μ2, frS μ μ2 → (∀ z, z < 5 * (j + 1) → ¬ xConf μ (z + 9)) → XJ G (xA G) 3 p l e (xr 3) s m args below meth c 0 0 Q 82 [some (.inr (0, 0)), some (.inl (nI j)), none] [] μ2) → (∀ q μ2 x, frS μ μ2 → q < 5 * xnp μ → xConf μ (q + 9) → (∀ z, z < q → ¬ xConf μ (z + 9)) → x = nI (200 + 8 * (q / 5) + q % 5) → ∀ L, L.length = 3 → XJ G (xA G) 3 p l e (xr 3) s m args below meth c 0 0 Q 37 L [.inl x] μ2 ∧ XJ G (xA G) 3 p l e (xr 3) s m args below meth c 0 0 Q 75 L [.inl x] μ2) → XJ G (xA G) 3 p l e (xr 3) s m args below meth c 0 0 Q 40 [some (.inr (0, 0)), some (.inl (nI j)), some (.inl (nI k))] [] μ1 := by
    intro Q j n
    induction n using Nat.strongRecOn with
    | _ n ih =>
    intro k μ1 hj hn hk hfr hinv hx hy
    refine xj_iload_n E d_X9_findConflictOfComponent_40 rfl ?_
    refine xj_iconst (v := 4) E d_X9_findConflictOfComponent_41 (by decide) ?_
    refine xj_icmp_ge (tgt := 82) E d_X9_findConflictOfComponent_42 (by decide) (fun h42 => ?_) (fun h42 => ?_)
    · have hk8 : k = 4 := by
        have := ge_nI (a := 4) h42 (by omega) (by omega)
        omega
      subst hk8
      refine xj_forget 2 ?_
      exact hx _ hfr (fun q hq => hinv q (by omega))
    have hlt : k < 4 := ng_nI (a := 4) h42 (by omega) (by omega)
    refine xj_aload_n E d_X9_findConflictOfComponent_45 rfl ?_
    refine xj_aload_n E d_X9_findConflictOfComponent_46 rfl ?_
    refine xj_geta E fl_X9_32 (by decide) rfl (by decide) rfl d_X9_findConflictOfComponent_47 ?_
    refine xj_iload_n E d_X9_findConflictOfComponent_50 rfl ?_
    refine xj_aald E (by decide) rfl (show vp_in (nI j) 4 from in_nI (by omega) (by omega)) d_X9_findConflictOfComponent_51 ?_
    refine xj_st (st' := [.inr (12, j), .inr (0, 0)]) (by rw [cl_nI (by omega)]; try rfl) ?_
    refine xj_iload_n E d_X9_findConflictOfComponent_52 rfl ?_
    refine xj_callV E (k_X4_place l G hI j (nI k) _) cw_X9_129 cv_X4_place (by decide) rfl rfl rfl ⟨by decide, by decide⟩ (Nat.le_of_ble_eq_true rfl) d_X9_findConflictOfComponent_53 ⟨by decide, by decide⟩ (fun r53 μ53 ho53 hp53 => ?_)
    obtain ⟨rfl, hm53⟩ := hp53
    refine xj_mem hm53 ?_
    refine xj_st (st' := [.inr (13, 5 * j + 1 + k), .inr (0, 0)]) (by rw [if_neg (nI_pos (by omega)), if_pos (lt4 hlt), cl_nI (by omega)]; try rfl) ?_
    refine xj_geta E fl_X9_133 (by decide) rfl (by decide) rfl d_X9_findConflictOfComponent_56 ?_
    refine xj_callV E (k_X9_hasConflict l G hI (5 * j + 1 + k + 9) (xnt μ) _ (by rw [hfr.typ]; exact hw.1) (by rw [hfr.row]; exact (hw.2.2.2.2.2 _ (by omega)).1)) cw_X9_195 cv_X9_hasConflict (by decide) rfl rfl rfl ⟨by decide, by decide⟩ (Nat.le_of_ble_eq_true rfl) d_X9_findConflictOfComponent_59 ⟨by decide, by decide⟩ (fun r59 μ59 ho59 hp59 => ?_)
    obtain ⟨x, rfl, hx01, hxi, hfr2⟩ := hp59
    rw [hfr.conf] at hxi
    refine xj_st (st' := [.inl x]) rfl ?_
    refine xj_if_eq (tgt := 76) E d_X9_findConflictOfComponent_62 (by decide) (fun h62 => ?_) (fun h62 => ?_)
    · refine xj_iinc (v := nI (k + 1)) E d_X9_findConflictOfComponent_76 rfl (nI_inc k) rfl ?_
      refine xj_goto (tgt := 40) E d_X9_findConflictOfComponent_79 (by decide) ?_
      exact ih (4 - (k + 1)) (by omega) (k + 1) _ hj rfl (by omega) (hfr.tr hfr2) (fun q hq => by
        by_cases z : q = 5 * j + 1 + k
        · subst z; intro z; rw [h62] at hxi; exact i0_1 (hxi.mpr z)
        · exact hinv q (by omega)) hx hy
    refine xj_sipush (v := 201) E d_X9_findConflictOfComponent_65 (by decide) ?_
    refine xj_bipush (v := 8) E d_X9_findConflictOfComponent_68 (by decide) ?_
    refine xj_iload_n E d_X9_findConflictOfComponent_70 rfl ?_
    refine xj_imul E d_X9_findConflictOfComponent_71 ?_
    refine xj_iadd E d_X9_findConflictOfComponent_72 ?_
    refine xj_iload_n E d_X9_findConflictOfComponent_73 rfl ?_
    refine xj_iadd E d_X9_findConflictOfComponent_74 ?_
    refine (hy (5 * j + 1 + k) _ _ (hfr.tr hfr2) (by omega) (hxi.mp (hx01.resolve_left h62)) hinv ?_ _ rfl).2
    rw [show (5 * j + 1 + k) / 5 = j by omega, show (5 * j + 1 + k) % 5 = 1 + k by omega]
    rw [show nI (200 + 8 * j + (1 + k)) = nI (201 + 8 * j + k) by congr 1; omega, ← nI_add, ← nI_add, ← pk_mul]
    rfl
  have lp1 : ∀ (Q : State → Prop) (n j : Nat) (μ1 : Mem), xnp μ - j = n → j ≤ xnp μ → frS μ μ1 → (∀ z, z < 5 * j → ¬ xConf μ (z + 9)) → (∀ μ2, frS μ μ2 → (∀ z, z < 5 * xnp μ → ¬ xConf μ (z + 9)) → XJ G (xA G) 3 p l e (xr 3) s m args below meth c 0 0 Q 88 [some (.inr (0, 0)), some (.inl (nI (xnp μ))), none] [] μ2) → (∀ q μ2 x, frS μ μ2 → q < 5 * xnp μ → xConf μ (q + 9) → (∀ z, z < q → ¬ xConf μ (z + 9)) → x = nI (200 + 8 * (q / 5) + q % 5) → ∀ L, L.length = 3 → XJ G (xA G) 3 p l e (xr 3) s m args below meth c 0 0 Q 37 L [.inl x] μ2 ∧ XJ G (xA G) 3 p l e (xr 3) s m args below meth c 0 0 Q 75 L [.inl x] μ2) → XJ G (xA G) 3 p l e (xr 3) s m args below meth c 0 0 Q 2 [some (.inr (0, 0)), some (.inl (nI j)), none] [] μ1 := by
    intro Q n
    induction n using Nat.strongRecOn with
    | _ n ih =>
    intro j μ1 hn hj hfr hinv hx hy
    have e2 : μ1 0 0 6 = nI (xnp μ) := by rw [hfr 0 (by omega)]; exact hnp.1
    refine xj_iload_n E d_X9_findConflictOfComponent_2 rfl ?_
    refine xj_aload_n E d_X9_findConflictOfComponent_3 rfl ?_
    refine xj_geti E fl_X9_71 (by decide) rfl (by decide) rfl d_X9_findConflictOfComponent_4 ?_
    refine xj_icmp_ge (tgt := 88) E d_X9_findConflictOfComponent_7 (by decide) (fun h7 => ?_) (fun h7 => ?_)
    · have hk8 : j = xnp μ := by
        have := ge_nI (b := j) (by rw [← e2]; exact h7) (by omega) (by omega)
        omega
      subst hk8
      exact hx _ hfr hinv
    have hlt : j < xnp μ := ng_nI (b := j) (by rw [← e2]; exact h7) (by omega) (by omega)
    refine xj_aload_n E d_X9_findConflictOfComponent_10 rfl ?_
    refine xj_aload_n E d_X9_findConflictOfComponent_11 rfl ?_
    refine xj_geta E fl_X9_32 (by decide) rfl (by decide) rfl d_X9_findConflictOfComponent_12 ?_
    refine xj_iload_n E d_X9_findConflictOfComponent_15 rfl ?_
    refine xj_aald E (by decide) rfl (show vp_in (nI j) 4 from in_nI (by omega) (by omega)) d_X9_findConflictOfComponent_16 ?_
    refine xj_st (st' := [.inr (12, j), .inr (0, 0)]) (by rw [cl_nI (by omega)]; try rfl) ?_
    refine xj_geta E fl_X9_199 (by decide) rfl (by decide) rfl d_X9_findConflictOfComponent_17 ?_
    refine xj_geta E fl_X9_133 (by decide) rfl (by decide) rfl d_X9_findConflictOfComponent_20 ?_
    refine xj_callV E (k_X9_hasConflict l G hI (5 * j + 9) (xnt μ) _ (by rw [hfr.typ]; exact hw.1) (by rw [hfr.row]; exact (hw.2.2.2.2.2 _ (by omega)).1)) cw_X9_195 cv_X9_hasConflict (by decide) rfl rfl rfl ⟨by decide, by decide⟩ (Nat.le_of_ble_eq_true rfl) d_X9_findConflictOfComponent_23 ⟨by decide, by decide⟩ (fun r23 μ23 ho23 hp23 => ?_)
    obtain ⟨x, rfl, hx01, hxi, hfr2⟩ := hp23
    rw [hfr.conf] at hxi
    refine xj_st (st' := [.inl x]) rfl ?_
    refine xj_if_eq (tgt := 38) E d_X9_findConflictOfComponent_26 (by decide) (fun h26 => ?_) (fun h26 => ?_)
    · refine xj_iconst (v := 0) E d_X9_findConflictOfComponent_38 (by decide) ?_
      refine xj_istore_n E d_X9_findConflictOfComponent_39 (by decide) rfl ?_
      refine lp2 Q j 4 0 _ hlt rfl (by omega) (hfr.tr hfr2) (fun q hq => by
        by_cases z : q = 5 * j
        · subst z; intro z; rw [h26] at hxi; exact i0_1 (hxi.mpr z)
        · exact hinv q (by omega)) (fun μ2 hfr3 hno => ?_) hy
      refine xj_iinc (v := nI (j + 1)) E d_X9_findConflictOfComponent_82 rfl (nI_inc j) rfl ?_
      refine xj_goto (tgt := 2) E d_X9_findConflictOfComponent_85 (by decide) ?_
      exact ih (xnp μ - (j + 1)) (by omega) (j + 1) _ rfl (by omega) hfr3 hno hx hy
    refine xj_sipush (v := 200) E d_X9_findConflictOfComponent_29 (by decide) ?_
    refine xj_bipush (v := 8) E d_X9_findConflictOfComponent_32 (by decide) ?_
    refine xj_iload_n E d_X9_findConflictOfComponent_34 rfl ?_
    refine xj_imul E d_X9_findConflictOfComponent_35 ?_
    refine xj_iadd E d_X9_findConflictOfComponent_36 ?_
    refine (hy (5 * j) _ _ (hfr.tr hfr2) (by omega) (hxi.mp (hx01.resolve_left h26)) hinv ?_ _ rfl).1
    rw [show (5 * j) / 5 = j by omega, show (5 * j) % 5 = 0 by omega]
    rw [show 200 + 8 * j + 0 = 200 + 8 * j by omega, ← nI_add, ← pk_mul]
    rfl
  refine xj_iconst (v := 0) E d_X9_findConflictOfComponent_0 (by decide) ?_
  refine xj_istore_n E d_X9_findConflictOfComponent_1 (by decide) rfl ?_
  refine lp1 _ (xnp μ) 0 μ (by omega) (by omega) (frS.rf μ) (fun q hq => by omega) (fun μ2 hfr2 hno => ?_) (fun q μ2 x hfr2 hq hyes hno hxe L0 hL0 => ⟨?_, ?_⟩)
  · refine xj_iconst (v := 0) E d_X9_findConflictOfComponent_88 (by decide) ?_
    exact xj_iret E hr hlk d_X9_findConflictOfComponent_89 ⟨0, rfl, Or.inr ⟨hno, rfl⟩, hfr2⟩
  · exact xj_iret E hr hlk d_X9_findConflictOfComponent_37 ⟨_, rfl, Or.inl ⟨q, hq, hyes, hno, hxe⟩, hfr2⟩
  · exact xj_iret E hr hlk d_X9_findConflictOfComponent_75 ⟨_, rfl, Or.inl ⟨q, hq, hyes, hno, hxe⟩, hfr2⟩

theorem frS.fp {μ μ' : Mem} (h : frS μ μ') (j mm : Nat) : xFP μ' j mm = xFP μ j mm := by
  funext t v
  unfold xFP
  rw [h.pair, h.pair]
theorem frS.chn {μ μ' : Mem} (h : frS μ μ') (j mm : Nat) : xChn μ' j mm = xChn μ j mm := by
  unfold xChn
  rw [h.ls, h.ls, h.ls, h.nl, h.nl, h.ei, h.ed, h.bx, h.bx, h.bd, h.fp, h.ni, h.nd, h 13 (by omega), h 12 (by omega)]
theorem xChn_len {μ : Mem} (hw : xWF μ) {j mm : Nat} (hj : j < xnp μ) : 1 ≤ (xChn μ j mm).length ∧ (xChn μ j mm).length ≤ 21 := by
  have hni := hw.2.1.2
  have hnd := hw.2.2.1.2
  have hq0 := (hw.2.2.2.2.2 (5 * j) (by omega)).2.1.2
  unfold xChn
  split
  · rename_i h4
    have hq1 := (hw.2.2.2.2.2 (5 * j + 1 + mm) (by omega)).2.1.2
    have h1 := xLs_len μ (5 * j) 1 (xnl μ (5 * j))
    have h2 := xLs_len μ (5 * j + 1 + mm) 1 (xnl μ (5 * j + 1 + mm))
    have h3 := sel_len (n := xni μ) (i := 0) (bdX_u μ (xFP μ j mm) 1) (Nat.le_refl 9) (by omega) (Or.inr rfl)
    have h4 := sel_len (n := xnd μ) (i := 0) (bdD_u μ (μ 12 j 0) (nI mm)) (Nat.le_refl 9) (by omega) (Or.inr rfl)
    split <;> simp only [List.length_append, List.length_map, List.length_cons, List.length_nil] <;> omega
  · have h1 := xLs_len μ (5 * j) ((2 : Int32) <<< ((nI mm - 4) &&& 31)) (xnl μ (5 * j))
    have h3 := sel_len (n := xni μ) (i := 0) (bdX_u μ (xFP μ j mm) ((2 : Int32) <<< ((nI mm - 4) &&& 31))) (Nat.le_refl 9) (by omega) (Or.inr rfl)
    simp only [List.length_append, List.length_map, List.length_cons, List.length_nil]
    omega

set_option maxRecDepth 100000 in
set_option maxHeartbeats 4000000 in
/-- X9 findFinalWithChain -/
theorem k_X9_findFinalWithChain (l : Launch) (G : XG) (hI : XI G)  (μ : Mem) (hw : xWF μ) (hnc : xNC μ) : XMet l G y_X9_findFinalWithChain c_X9_findFinalWithChain 3 (some .int) 5 [.inr (0, 0)] μ (fun r μ' => ∃ x : Int32, r = some (.inl x) ∧ firstN (fun k => (¬ μ 13 (5 * (k / 4) + 1 + k % 4) 3 &&& 1 = 0 ∧ 1 < (xChn μ (k / 4) (k % 4)).length)) (4 * xnp μ) (fun k => nI (300 + k)) x ∧ frS μ μ') := by
  refine xj_met (by decide) hI (Nat.le_of_ble_eq_true rfl) ?_
  intro p e s m args below meth c E hr hlk
  have E : XE G (xA G) RX9 c_X9_findFinalWithChain 3 p s m args c := E
  refine xj_loc (L' := [some (.inr (0, 0)), none, none]) rfl ?_
  have hnp := hw.2.2.2.1
  have lp2 : ∀ (Q : State → Prop) (j n k : Nat) (μ1 : Mem), j < xnp μ → 4 - k = n → k ≤ 4 → frS μ μ1 → (∀ q, q < 4 * j + k → ¬ (¬ μ 13 (5 * (q / 4) + 1 + q % 4) 3 &&& 1 = 0 ∧ 1 < (xChn μ (q / 4) (q % 4)).length)) → (∀ μ2, frS μ μ2 → (∀ q, q < 4 * (j + 1) → ¬ (¬ μ 13 (5 * (q / 4) + 1 + q % 4) 3 &&& 1 = 0 ∧ 1 < (xChn μ (q / 4) (q % 4)).length)) → XJ G (xA G) 3 p l e (xr 5) s m args below meth c 0 0 Q 72 [some (.inr (0, 0)), some (.inl (nI j)), none] [] μ2) → (∀ q μ2 x, frS μ μ2 → q < 4 * xnp μ → (¬ μ 13 (5 * (q / 4) + 1 + q % 4) 3 &&& 1 = 0 ∧ 1 < (xChn μ (q / 4) (q % 4)).length) → (∀ k, k < q → ¬ (¬ μ 13 (5 * (k / 4) + 1 + k % 4) 3 &&& 1 = 0 ∧ 1 < (xChn μ (k / 4) (k % 4)).length)) → x = nI (300 + q) → ∀ L, L.length = 3 → XJ G (xA G) 3 p l e (xr 5) s m args below meth c 0 0 Q 65 L [.inl x] μ2) → XJ G (xA G) 3 p l e (xr 5) s m args below meth c 0 0 Q 12 [some (.inr (0, 0)), some (.inl (nI j)), some (.inl (nI k))] [] μ1 := by
    intro Q j n
    induction n using Nat.strongRecOn with
    | _ n ih =>
    intro k μ1 hj hn hk hfr hinv hx hy
    refine xj_iload_n E d_X9_findFinalWithChain_12 rfl ?_
    refine xj_iconst (v := 4) E d_X9_findFinalWithChain_13 (by decide) ?_
    refine xj_icmp_ge (tgt := 72) E d_X9_findFinalWithChain_14 (by decide) (fun h14 => ?_) (fun h14 => ?_)
    · have hk8 : k = 4 := by
        have := ge_nI (a := 4) h14 (by omega) (by omega)
        omega
      subst hk8
      refine xj_forget 2 ?_
      exact hx _ hfr (fun q hq => hinv q (by omega))
    have hlt : k < 4 := ng_nI (a := 4) h14 (by omega) (by omega)
    have ed : (4 * j + k) / 4 = j := by omega
    have em : (4 * j + k) % 4 = k := by omega
    refine xj_aload_n E d_X9_findFinalWithChain_17 rfl ?_
    refine xj_geta E fl_X9_32 (by decide) rfl (by decide) rfl d_X9_findFinalWithChain_18 ?_
    refine xj_iload_n E d_X9_findFinalWithChain_21 rfl ?_
    refine xj_aald E (by decide) rfl (show vp_in (nI j) 4 from in_nI (by omega) (by omega)) d_X9_findFinalWithChain_22 ?_
    refine xj_st (st' := [.inr (12, j)]) (by rw [cl_nI (by omega)]; try rfl) ?_
    refine xj_iload_n E d_X9_findFinalWithChain_23 rfl ?_
    refine xj_callV E (k_X4_place l G hI j (nI k) _) cw_X9_129 cv_X4_place (by decide) rfl rfl rfl ⟨by decide, by decide⟩ (Nat.le_of_ble_eq_true rfl) d_X9_findFinalWithChain_24 ⟨by decide, by decide⟩ (fun r24 μ24 ho24 hp24 => ?_)
    obtain ⟨rfl, hm24⟩ := hp24
    refine xj_mem hm24 ?_
    refine xj_st (st' := [.inr (13, 5 * j + 1 + k)]) (by rw [if_neg (nI_pos (by omega)), if_pos (lt4 hlt), cl_nI (by omega)]; try rfl) ?_
    refine xj_iconst (v := 1) E d_X9_findFinalWithChain_27 (by decide) ?_
    refine xj_callV E (k_X8_has l G hI (5 * j + 1 + k) 1 _) cw_X9_171 cv_X8_has (by decide) rfl rfl rfl ⟨by decide, by decide⟩ (Nat.le_of_ble_eq_true rfl) d_X9_findFinalWithChain_28 ⟨by decide, by decide⟩ (fun r28 μ28 ho28 hp28 => ?_)
    obtain ⟨rfl, hm28⟩ := hp28
    refine xj_mem hm28 ?_
    refine xj_if_eq (tgt := 66) E d_X9_findFinalWithChain_31 (by decide) (fun h31 => ?_) (fun h31 => ?_)
    · refine xj_iinc (v := nI (k + 1)) E d_X9_findFinalWithChain_66 rfl (nI_inc k) rfl ?_
      refine xj_goto (tgt := 12) E d_X9_findFinalWithChain_69 (by decide) ?_
      first
        | exact ih (4 - (k + 1)) (by omega) (k + 1) _ hj rfl (by omega) (hfr.tr hfr2) (fun q hq => by
            by_cases z : q = 4 * j + k
            · subst z
              rw [ed, em]
              intro z
              have h53 := (nI_leI (a := (xChn μ j k).length) (b := 1) (by have := xChn_len hw hj (mm := k); omega) (by omega)).mp (by rw [← hch.1]; exact h53)
              omega
            · exact hinv q (by omega)) hx hy
        | exact ih (4 - (k + 1)) (by omega) (k + 1) _ hj rfl (by omega) hfr (fun q hq => by
            by_cases z : q = 4 * j + k
            · subst z
              rw [ed, em]
              intro z
              have hz := b01 h31
              rw [hfr 13 (by omega)] at hz
              exact z.1 hz
            · exact hinv q (by omega)) hx hy
    refine xj_aload_n E d_X9_findFinalWithChain_34 rfl ?_
    refine xj_aload_n E d_X9_findFinalWithChain_35 rfl ?_
    refine xj_geta E fl_X9_32 (by decide) rfl (by decide) rfl d_X9_findFinalWithChain_36 ?_
    refine xj_iload_n E d_X9_findFinalWithChain_39 rfl ?_
    refine xj_aald E (by decide) rfl (show vp_in (nI j) 4 from in_nI (by omega) (by omega)) d_X9_findFinalWithChain_40 ?_
    refine xj_st (st' := [.inr (12, j), .inr (0, 0)]) (by rw [cl_nI (by omega)]; try rfl) ?_
    refine xj_iload_n E d_X9_findFinalWithChain_41 rfl ?_
    refine xj_callV E (k_X9_buildChain l G hI j k _ (hfr.wf hw) ⟨by rw [hfr.ni]; intro i hi; rw [hfr.conf]; exact hnc.1 i hi, by rw [hfr.np]; intro q hq; rw [hfr.conf]; exact hnc.2 q hq⟩ (by rw [hfr.np]; exact hj) (by omega)) cw_X9_158 cv_X9_buildChain (by decide) rfl rfl rfl ⟨by decide, by decide⟩ (Nat.le_of_ble_eq_true rfl) d_X9_findFinalWithChain_42 ⟨by decide, by decide⟩ (fun r42 μ42 ho42 hp42 => ?_)
    obtain ⟨rfl, hfr2, hch⟩ := hp42
    rw [hfr.chn] at hch
    refine xj_aload_n E d_X9_findFinalWithChain_45 rfl ?_
    refine xj_geta E fl_X9_50 (by decide) rfl (by decide) rfl d_X9_findFinalWithChain_46 ?_
    refine xj_geti E fl_X9_162 (by decide) rfl (by decide) rfl d_X9_findFinalWithChain_49 ?_
    refine xj_iconst (v := 1) E d_X9_findFinalWithChain_52 (by decide) ?_
    refine xj_icmp_le (tgt := 66) E d_X9_findFinalWithChain_53 (by decide) (fun h53 => ?_) (fun h53 => ?_)
    · refine xj_iinc (v := nI (k + 1)) E d_X9_findFinalWithChain_66 rfl (nI_inc k) rfl ?_
      refine xj_goto (tgt := 12) E d_X9_findFinalWithChain_69 (by decide) ?_
      first
        | exact ih (4 - (k + 1)) (by omega) (k + 1) _ hj rfl (by omega) (hfr.tr hfr2) (fun q hq => by
            by_cases z : q = 4 * j + k
            · subst z
              rw [ed, em]
              intro z
              have h53 := (nI_leI (a := (xChn μ j k).length) (b := 1) (by have := xChn_len hw hj (mm := k); omega) (by omega)).mp (by rw [← hch.1]; exact h53)
              omega
            · exact hinv q (by omega)) hx hy
        | exact ih (4 - (k + 1)) (by omega) (k + 1) _ hj rfl (by omega) hfr (fun q hq => by
            by_cases z : q = 4 * j + k
            · subst z
              rw [ed, em]
              intro z
              have hz := b01 h31
              rw [hfr 13 (by omega)] at hz
              exact z.1 hz
            · exact hinv q (by omega)) hx hy
    refine xj_sipush (v := 300) E d_X9_findFinalWithChain_56 (by decide) ?_
    refine xj_iconst (v := 4) E d_X9_findFinalWithChain_59 (by decide) ?_
    refine xj_iload_n E d_X9_findFinalWithChain_60 rfl ?_
    refine xj_imul E d_X9_findFinalWithChain_61 ?_
    refine xj_iadd E d_X9_findFinalWithChain_62 ?_
    refine xj_iload_n E d_X9_findFinalWithChain_63 rfl ?_
    refine xj_iadd E d_X9_findFinalWithChain_64 ?_
    refine hy (4 * j + k) _ _ (hfr.tr hfr2) (by omega) ?_ hinv ?_ _ rfl
    · rw [ed, em]
      have hz := b01n h31
      rw [hfr 13 (by omega)] at hz
      refine ⟨hz, ?_⟩
      apply Classical.byContradiction
      intro q
      apply h53
      rw [hch.1]
      exact nI_le (b := 1) (by omega) (by omega)
    · rw [← nI_add, ← nI_add, ← pk_mul, ← Int32.add_assoc]
      rfl
  have lp1 : ∀ (Q : State → Prop) (n j : Nat) (μ1 : Mem), xnp μ - j = n → j ≤ xnp μ → frS μ μ1 → (∀ q, q < 4 * j → ¬ (¬ μ 13 (5 * (q / 4) + 1 + q % 4) 3 &&& 1 = 0 ∧ 1 < (xChn μ (q / 4) (q % 4)).length)) → (∀ μ2, frS μ μ2 → (∀ q, q < 4 * xnp μ → ¬ (¬ μ 13 (5 * (q / 4) + 1 + q % 4) 3 &&& 1 = 0 ∧ 1 < (xChn μ (q / 4) (q % 4)).length)) → XJ G (xA G) 3 p l e (xr 5) s m args below meth c 0 0 Q 78 [some (.inr (0, 0)), some (.inl (nI (xnp μ))), none] [] μ2) → (∀ q μ2 x, frS μ μ2 → q < 4 * xnp μ → (¬ μ 13 (5 * (q / 4) + 1 + q % 4) 3 &&& 1 = 0 ∧ 1 < (xChn μ (q / 4) (q % 4)).length) → (∀ k, k < q → ¬ (¬ μ 13 (5 * (k / 4) + 1 + k % 4) 3 &&& 1 = 0 ∧ 1 < (xChn μ (k / 4) (k % 4)).length)) → x = nI (300 + q) → ∀ L, L.length = 3 → XJ G (xA G) 3 p l e (xr 5) s m args below meth c 0 0 Q 65 L [.inl x] μ2) → XJ G (xA G) 3 p l e (xr 5) s m args below meth c 0 0 Q 2 [some (.inr (0, 0)), some (.inl (nI j)), none] [] μ1 := by
    intro Q n
    induction n using Nat.strongRecOn with
    | _ n ih =>
    intro j μ1 hn hj hfr hinv hx hy
    have e2 : μ1 0 0 6 = nI (xnp μ) := by rw [hfr 0 (by omega)]; exact hnp.1
    refine xj_iload_n E d_X9_findFinalWithChain_2 rfl ?_
    refine xj_aload_n E d_X9_findFinalWithChain_3 rfl ?_
    refine xj_geti E fl_X9_71 (by decide) rfl (by decide) rfl d_X9_findFinalWithChain_4 ?_
    refine xj_icmp_ge (tgt := 78) E d_X9_findFinalWithChain_7 (by decide) (fun h7 => ?_) (fun h7 => ?_)
    · have hk8 : j = xnp μ := by
        have := ge_nI (b := j) (by rw [← e2]; exact h7) (by omega) (by omega)
        omega
      subst hk8
      exact hx _ hfr hinv
    have hlt : j < xnp μ := ng_nI (b := j) (by rw [← e2]; exact h7) (by omega) (by omega)
    refine xj_iconst (v := 0) E d_X9_findFinalWithChain_10 (by decide) ?_
    refine xj_istore_n E d_X9_findFinalWithChain_11 (by decide) rfl ?_
    refine lp2 Q j 4 0 _ hlt rfl (by omega) hfr (fun q hq => hinv q (by omega)) (fun μ2 hfr3 hno => ?_) hy
    refine xj_iinc (v := nI (j + 1)) E d_X9_findFinalWithChain_72 rfl (nI_inc j) rfl ?_
    refine xj_goto (tgt := 2) E d_X9_findFinalWithChain_75 (by decide) ?_
    exact ih (xnp μ - (j + 1)) (by omega) (j + 1) _ rfl (by omega) hfr3 hno hx hy
  refine xj_iconst (v := 0) E d_X9_findFinalWithChain_0 (by decide) ?_
  refine xj_istore_n E d_X9_findFinalWithChain_1 (by decide) rfl ?_
  refine lp1 _ (xnp μ) 0 μ (by omega) (by omega) (frS.rf μ) (fun q hq => by omega) (fun μ2 hfr2 hno => ?_) (fun q μ2 x hfr2 hq hyes hno hxe L0 hL0 => ?_)
  · refine xj_iconst (v := 0) E d_X9_findFinalWithChain_78 (by decide) ?_
    exact xj_iret E hr hlk d_X9_findFinalWithChain_79 ⟨0, rfl, Or.inr ⟨hno, rfl⟩, hfr2⟩
  · exact xj_iret E hr hlk d_X9_findFinalWithChain_65 ⟨_, rfl, Or.inl ⟨q, hq, hyes, hno, hxe⟩, hfr2⟩
end
section
/-! the memory of an invocation of the class -/
def mrs (μ : Mem) (S : RS) : Mem := fun f i => if f = 23 ∧ i = 0 then S.2.1 else if f = 22 ∧ i = 0 then upd (upd (upd (μ 22 0) 1 (nI S.1)) 3 S.2.2.2) 6 S.2.2.1 else μ f i
theorem upd_ne {f : Nat → Int32} {k j : Nat} {x : Int32} (h : j ≠ k) : upd f k x j = f j := by simp [upd, h]
theorem upd_at (f : Nat → Int32) (k : Nat) (x : Int32) : upd f k x k = x := by simp [upd]
theorem upd_comm {f : Nat → Int32} {k j : Nat} {x y : Int32} (h : k ≠ j) : upd (upd f k x) j y = upd (upd f j y) k x := by
  funext i
  by_cases h1 : i = j
  · subst h1
    rw [upd_at, upd_ne (Ne.symm h), upd_at]
  · rw [upd_ne h1]
    by_cases h2 : i = k
    · subst h2; rw [upd_at, upd_at]
    · rw [upd_ne h2, upd_ne h2, upd_ne h1]
theorem mrs_22 {μ : Mem} {S S' : RS} {ν : Mem} (h23 : ν 23 0 = S'.2.1) (h22 : ν 22 0 = upd (upd (upd (μ 22 0) 1 (nI S'.1)) 3 S'.2.2.2) 6 S'.2.2.1) (ho : ∀ f i, ¬ (f = 23 ∧ i = 0) → ¬ (f = 22 ∧ i = 0) → ν f i = μ f i) : ν = mrs μ S' := by
  funext f i
  by_cases h1 : f = 23 ∧ i = 0
  · obtain ⟨rfl, rfl⟩ := h1; rw [h23]; rfl
  · by_cases h2 : f = 22 ∧ i = 0
    · obtain ⟨rfl, rfl⟩ := h2; rw [h22]; rfl
    · rw [ho f i h1 h2]; simp [mrs, h1, h2]
theorem mrs_o {μ : Mem} {S : RS} {f i : Nat} (h1 : ¬ (f = 23 ∧ i = 0)) (h2 : ¬ (f = 22 ∧ i = 0)) : mrs μ S f i = μ f i := by simp [mrs, h1, h2]
theorem mrs_th (μ : Mem) (S : RS) (x : Int32) : mset (mrs μ S) 22 0 3 x = mrs μ (rTh S x) := by
  refine mrs_22 (S := S) rfl ?_ (fun f i h1 h2 => by rw [mset_ne h2, mrs_o h1 h2])
  rw [mset_same]
  show upd (upd (upd (upd (μ 22 0) 1 (nI S.1)) 3 S.2.2.2) 6 S.2.2.1) 3 x = upd (upd (upd (μ 22 0) 1 (nI S.1)) 3 x) 6 S.2.2.1
  rw [upd_comm (by decide), upd_upd]
theorem mrs_sh (μ : Mem) (S : RS) (x : Int32) : mset (mrs μ S) 22 0 6 x = mrs μ (rSh S x) := by
  refine mrs_22 (S := S) rfl ?_ (fun f i h1 h2 => by rw [mset_ne h2, mrs_o h1 h2])
  rw [mset_same]
  show upd (upd (upd (upd (μ 22 0) 1 (nI S.1)) 3 S.2.2.2) 6 S.2.2.1) 6 x = _
  rw [upd_upd]
  rfl
theorem mrs_log (μ : Mem) (S : RS) (x : Int32) : mset (mset (mrs μ S) 23 0 S.1 x) 22 0 1 (nI (S.1 + 1)) = mrs μ (rLog S x) := by
  refine mrs_22 (S := S) ?_ ?_ (fun f i h1 h2 => by rw [mset_ne h2, mset_ne h1, mrs_o h1 h2])
  · rw [mset_f (by decide), mset_same]; rfl
  · rw [mset_same]
    show upd (upd (upd (upd (μ 22 0) 1 (nI S.1)) 3 S.2.2.2) 6 S.2.2.1) 1 (nI (S.1 + 1)) = upd (upd (upd (μ 22 0) 1 (nI (S.1 + 1))) 3 S.2.2.2) 6 S.2.2.1
    rw [upd_comm (by decide), upd_comm (k := 3) (by decide), upd_upd]

set_option maxRecDepth 100000 in
set_option maxHeartbeats 4000000 in
/-- X7 forget -/
theorem k_X7_forget (l : Launch) (G : XG) (hI : XI G)  (μ : Mem)  : XMet l G y_X7_forget c_X7_forget 1 none 0 [.inr (22, 0)] μ (fun r μ' => r = none ∧ μ' = mset (mset (mset μ 22 0 1 0) 22 0 2 0) 22 0 3 0) := by
  refine xj_met (by decide) hI (Nat.le_of_ble_eq_true rfl) ?_
  intro p e s m args below meth c E hr hlk
  have E : XE G (xA G) RX7 c_X7_forget 1 p s m args c := E
  refine xj_loc (L' := [some (.inr (22, 0))]) rfl ?_
  refine xj_aload_n E d_X7_forget_0 rfl ?_
  refine xj_iconst (v := 0) E d_X7_forget_1 (by decide) ?_
  refine xj_put E fp_X7_15 (by decide) rfl (by decide) rfl (narrow_i _) d_X7_forget_2 ?_
  refine xj_aload_n E d_X7_forget_5 rfl ?_
  refine xj_iconst (v := 0) E d_X7_forget_6 (by decide) ?_
  refine xj_put E fp_X7_19 (by decide) rfl (by decide) rfl (narrow_i _) d_X7_forget_7 ?_
  refine xj_aload_n E d_X7_forget_10 rfl ?_
  refine xj_iconst (v := 0) E d_X7_forget_11 (by decide) ?_
  refine xj_put E fp_X7_22 (by decide) rfl (by decide) rfl (narrow_i _) d_X7_forget_12 ?_
  exact xj_vret E hr hlk d_X7_forget_15 ⟨rfl, rfl⟩

set_option maxRecDepth 100000 in
set_option maxHeartbeats 4000000 in
/-- X7 fail -/
theorem k_X7_fail (l : Launch) (G : XG) (hI : XI G) (x : Int32) (μ : Mem)  : XMet l G y_X7_fail c_X7_fail 2 (some .int) 0 [.inr (22, 0), .inl x] μ (fun r μ' => r = some (.inl 0) ∧ μ' = mset μ 22 0 3 x) := by
  refine xj_met (by decide) hI (Nat.le_of_ble_eq_true rfl) ?_
  intro p e s m args below meth c E hr hlk
  have E : XE G (xA G) RX7 c_X7_fail 2 p s m args c := E
  refine xj_loc (L' := [some (.inr (22, 0)), some (.inl x)]) rfl ?_
  refine xj_aload_n E d_X7_fail_0 rfl ?_
  refine xj_iload_n E d_X7_fail_1 rfl ?_
  refine xj_put E fp_X7_22 (by decide) rfl (by decide) rfl (narrow_i _) d_X7_fail_2 ?_
  refine xj_iconst (v := 0) E d_X7_fail_5 (by decide) ?_
  exact xj_iret E hr hlk d_X7_fail_6 ⟨rfl, rfl⟩

set_option maxRecDepth 100000 in
set_option maxHeartbeats 4000000 in
/-- X7 reachTarget -/
theorem k_X7_reachTarget (l : Launch) (G : XG) (hI : XI G) (g : Int32) (S : RS) (μ : Mem)  : XMet l G y_X7_reachTarget c_X7_reachTarget 2 (some .int) 1 [.inr (22, 0), .inl g] (mrs μ S) (fun rr μ' => rr = some (.inl (rTg (μ 22 0 4) (μ 22 0 5) g S).1) ∧ μ' = mrs μ (rTg (μ 22 0 4) (μ 22 0 5) g S).2) := by
  refine xj_met (by decide) hI (Nat.le_of_ble_eq_true rfl) ?_
  intro p e s m args below meth c E hr hlk
  have E : XE G (xA G) RX7 c_X7_reachTarget 2 p s m args c := E
  refine xj_loc (L' := [some (.inr (22, 0)), some (.inl g)]) rfl ?_
  refine xj_aload_n E d_X7_reachTarget_0 rfl ?_
  refine xj_geti E fl_X7_28 (by decide) rfl (by decide) rfl d_X7_reachTarget_1 ?_
  refine xj_iconst (v := 4) E d_X7_reachTarget_4 (by decide) ?_
  refine xj_icmp_lt (tgt := 11) E d_X7_reachTarget_5 (by decide) (fun h5 => ?_) (fun h5 => ?_)
  · refine xj_aload_n E d_X7_reachTarget_11 rfl ?_
    refine xj_geti E fl_X7_31 (by decide) rfl (by decide) rfl d_X7_reachTarget_12 ?_
    refine xj_if_eq (tgt := 32) E d_X7_reachTarget_15 (by decide) (fun h15 => ?_) (fun h15 => ?_)
    · refine xj_iconst (v := 3) E d_X7_reachTarget_32 (by decide) ?_
      refine xj_iload_n E d_X7_reachTarget_33 rfl ?_
      refine xj_imul E d_X7_reachTarget_34 ?_
      refine xj_aload_n E d_X7_reachTarget_35 rfl ?_
      refine xj_geti E fl_X7_28 (by decide) rfl (by decide) rfl d_X7_reachTarget_36 ?_
      refine xj_iadd E d_X7_reachTarget_39 ?_
      exact xj_iret E hr hlk d_X7_reachTarget_40 (by first | (unfold rTg; rw [if_pos (show μ 22 0 4 < 4 from h5), if_pos (show μ 22 0 5 = 0 from h15)]; exact ⟨rfl, rfl⟩) | (unfold rTg; rw [if_pos (show μ 22 0 4 < 4 from h5), if_neg (show ¬ μ 22 0 5 = 0 from h15)]; exact ⟨rfl, rfl⟩))
    refine xj_aload_n E d_X7_reachTarget_18 rfl ?_
    refine xj_bipush (v := 33) E d_X7_reachTarget_19 (by decide) ?_
    refine xj_aload_n E d_X7_reachTarget_21 rfl ?_
    refine xj_geti E fl_X7_28 (by decide) rfl (by decide) rfl d_X7_reachTarget_22 ?_
    refine xj_iadd E d_X7_reachTarget_25 ?_
    refine xj_callV E (k_X7_fail l G hI _ _) cw_X7_47 cv_X7_fail (by decide) rfl rfl rfl ⟨by decide, by decide⟩ (Nat.le_of_ble_eq_true rfl) d_X7_reachTarget_26 ⟨Nat.zero_le _, Nat.zero_le _⟩ (fun r26 μ26 ho26 hp26 => ?_)
    obtain ⟨rfl, hm26⟩ := hp26
    refine xj_mem (hm26.trans (mrs_th μ S _)) ?_
    refine xj_goto (tgt := 40) E d_X7_reachTarget_29 (by decide) ?_
    exact xj_iret E hr hlk d_X7_reachTarget_40 (by first | (unfold rTg; rw [if_pos (show μ 22 0 4 < 4 from h5), if_pos (show μ 22 0 5 = 0 from h15)]; exact ⟨rfl, rfl⟩) | (unfold rTg; rw [if_pos (show μ 22 0 4 < 4 from h5), if_neg (show ¬ μ 22 0 5 = 0 from h15)]; exact ⟨rfl, rfl⟩))
  refine xj_bipush (v := 7) E d_X7_reachTarget_8 (by decide) ?_
  exact xj_iret E hr hlk d_X7_reachTarget_10 (by unfold rTg; rw [if_neg (show ¬ μ 22 0 4 < 4 from h5)]; exact ⟨rfl, rfl⟩)

/-- enter, with r places left of a chain of n -/
def EnterOK (l : Launch) (G : XG) (μ : Mem) (n r : Nat) : Prop := ∀ (k : Nat) (g : Int32) (S : RS), k + r = n → S.1 ≤ 64 → XMet l G y_X7_enter c_X7_enter 5 (some .int) (4 * r + 2) [.inr (22, 0), .inr (19, 0), .inl (nI k), .inl g] (mrs μ S) (fun rr μ' => rr = some (.inl (rn (μ 20 0) (μ 21 0) (μ 22 0 4) (μ 22 0 5) r k g S).1) ∧ μ' = mrs μ (rn (μ 20 0) (μ 21 0) (μ 22 0 4) (μ 22 0 5) r k g S).2)

set_option maxRecDepth 100000 in
set_option maxHeartbeats 4000000 in
/-- X7 proceed -/
theorem k_X7_proceed (l : Launch) (G : XG) (hI : XI G) (n r k : Nat) (o : Int32) (S : RS) (μ : Mem) (hn : n ≤ 21) (hkr : k + 1 + r = n) (hE : EnterOK l G μ n r) (hS : S.1 ≤ 64) : XMet l G y_X7_proceed c_X7_proceed 5 (some .int) (4 * r + 3) [.inr (22, 0), .inr (19, 0), .inl (nI k), .inl o] (mrs μ S) (fun rr μ' => rr = some (.inl (rPr (rn (μ 20 0) (μ 21 0) (μ 22 0 4) (μ 22 0 5) r (k + 1)) (μ 20 0 k) o S).1) ∧ μ' = mrs μ (rPr (rn (μ 20 0) (μ 21 0) (μ 22 0 4) (μ 22 0 5) r (k + 1)) (μ 20 0 k) o S).2) := by
  refine xj_met (by decide) hI (Nat.le_of_ble_eq_true rfl) ?_
  intro p e s m args below meth c E hr hlk
  have E : XE G (xA G) RX7 c_X7_proceed 5 p s m args c := E
  refine xj_loc (L' := [some (.inr (22, 0)), some (.inr (19, 0)), some (.inl (nI k)), some (.inl o), none]) rfl ?_
  have hcl : (nI k).toNatClampNeg = k := cl_nI (by omega)
  refine xj_aload_n E d_X7_proceed_0 rfl ?_
  refine xj_geta E fl_X7_51 (by decide) rfl (by decide) rfl d_X7_proceed_1 ?_
  refine xj_iload_n E d_X7_proceed_4 rfl ?_
  refine xj_iald E (by decide) (show vp_in (nI k) 21 from in_nI (by omega) (by omega)) d_X7_proceed_5 ?_
  refine xj_st (st' := [.inl (μ 20 0 k)]) (by rw [hcl]; rfl) ?_
  refine xj_bipush (v := 16) E d_X7_proceed_6 (by decide) ?_
  refine xj_icmp_ge (tgt := 15) E d_X7_proceed_8 (by decide) (fun h8 => ?_) (fun h8 => ?_)
  · refine xj_iconst (v := 0) E d_X7_proceed_15 (by decide) ?_
    refine xj_istore E d_X7_proceed_16 (by decide) rfl ?_
    refine xj_aload_n E d_X7_proceed_18 rfl ?_
    refine xj_aload_n E d_X7_proceed_19 rfl ?_
    refine xj_iload_n E d_X7_proceed_20 rfl ?_
    refine xj_iconst (v := 1) E d_X7_proceed_21 (by decide) ?_
    refine xj_iadd E d_X7_proceed_22 ?_
    refine xj_iload E d_X7_proceed_23 rfl ?_
    refine xj_if_eq (tgt := 35) E d_X7_proceed_25 (by decide) (fun h25 => ?_) (fun h25 => absurd rfl h25)
    refine xj_iload_n E d_X7_proceed_35 rfl ?_
    refine xj_st (st' := [.inl (if μ 20 0 k < 16 then S.2.2.1 else o), .inl (nI (k + 1)), .inr (19, 0), .inr (22, 0)]) (by rw [if_neg (fun q => Int32.not_lt.mpr h8 q), ← nI_1]; try rfl) ?_
    refine xj_callV E (hE (k + 1) (if μ 20 0 k < 16 then S.2.2.1 else o) S (by omega) hS) cw_X7_38 cv_X7_enter (by decide) rfl rfl rfl ⟨by show 4 * r + 2 + 1 ≤ 4 * r + 3; omega, by show 40 * (4 * r + 2) + 40 ≤ 40 * (4 * r + 3); omega⟩ (Nat.le_of_ble_eq_true rfl) d_X7_proceed_36 ⟨Nat.zero_le _, Nat.zero_le _⟩ (fun r36 μ36 ho36 hp36 => ?_)
    obtain ⟨rfl, rfl⟩ := hp36
    exact xj_iret E hr hlk d_X7_proceed_39 ⟨rfl, rfl⟩
  refine xj_iconst (v := 1) E d_X7_proceed_11 (by decide) ?_
  refine xj_goto (tgt := 16) E d_X7_proceed_12 (by decide) ?_
  refine xj_istore E d_X7_proceed_16 (by decide) rfl ?_
  refine xj_aload_n E d_X7_proceed_18 rfl ?_
  refine xj_aload_n E d_X7_proceed_19 rfl ?_
  refine xj_iload_n E d_X7_proceed_20 rfl ?_
  refine xj_iconst (v := 1) E d_X7_proceed_21 (by decide) ?_
  refine xj_iadd E d_X7_proceed_22 ?_
  refine xj_iload E d_X7_proceed_23 rfl ?_
  refine xj_if_eq (tgt := 35) E d_X7_proceed_25 (by decide) (fun h25 => absurd h25 i1_0) (fun h25 => ?_)
  refine xj_aload_n E d_X7_proceed_28 rfl ?_
  refine xj_geti E fl_X7_35 (by decide) rfl (by decide) rfl d_X7_proceed_29 ?_
  refine xj_goto (tgt := 36) E d_X7_proceed_32 (by decide) ?_
  refine xj_st (st' := [.inl (if μ 20 0 k < 16 then S.2.2.1 else o), .inl (nI (k + 1)), .inr (19, 0), .inr (22, 0)]) (by rw [if_pos (Int32.not_le.mp h8), ← nI_1]; try rfl) ?_
  refine xj_callV E (hE (k + 1) (if μ 20 0 k < 16 then S.2.2.1 else o) S (by omega) hS) cw_X7_38 cv_X7_enter (by decide) rfl rfl rfl ⟨by show 4 * r + 2 + 1 ≤ 4 * r + 3; omega, by show 40 * (4 * r + 2) + 40 ≤ 40 * (4 * r + 3); omega⟩ (Nat.le_of_ble_eq_true rfl) d_X7_proceed_36 ⟨Nat.zero_le _, Nat.zero_le _⟩ (fun r36 μ36 ho36 hp36 => ?_)
  obtain ⟨rfl, rfl⟩ := hp36
  exact xj_iret E hr hlk d_X7_proceed_39 ⟨rfl, rfl⟩

set_option maxRecDepth 100000 in
set_option maxHeartbeats 4000000 in
/-- X7 proceedTwice -/
theorem k_X7_proceedTwice (l : Launch) (G : XG) (hI : XI G) (n r k : Nat) (o : Int32) (S : RS) (μ : Mem) (hn : n ≤ 21) (hkr : k + 1 + r = n) (hE : EnterOK l G μ n r) (hS : S.1 ≤ 64) : XMet l G y_X7_proceedTwice c_X7_proceedTwice 5 (some .int) (4 * r + 4) [.inr (22, 0), .inr (19, 0), .inl (nI k), .inl o] (mrs μ S) (fun rr μ' => rr = some (.inl (rP2 (rn (μ 20 0) (μ 21 0) (μ 22 0 4) (μ 22 0 5) r (k + 1)) (μ 20 0 k) o S).1) ∧ μ' = mrs μ (rP2 (rn (μ 20 0) (μ 21 0) (μ 22 0 4) (μ 22 0 5) r (k + 1)) (μ 20 0 k) o S).2) := by
  refine xj_met (by decide) hI (Nat.le_of_ble_eq_true rfl) ?_
  intro p e s m args below meth c E hr hlk
  have E : XE G (xA G) RX7 c_X7_proceedTwice 5 p s m args c := E
  refine xj_loc (L' := [some (.inr (22, 0)), some (.inr (19, 0)), some (.inl (nI k)), some (.inl o), none]) rfl ?_
  refine xj_aload_n E d_X7_proceedTwice_0 rfl ?_
  refine xj_aload_n E d_X7_proceedTwice_1 rfl ?_
  refine xj_iload_n E d_X7_proceedTwice_2 rfl ?_
  refine xj_iload_n E d_X7_proceedTwice_3 rfl ?_
  refine xj_callV E (k_X7_proceed l G hI n r k o S μ hn hkr hE hS) cw_X7_70 cv_X7_proceed (by decide) rfl rfl rfl ⟨by show 4 * r + 3 + 1 ≤ 4 * r + 4; omega, by show 40 * (4 * r + 3) + 40 ≤ 40 * (4 * r + 4); omega⟩ (Nat.le_of_ble_eq_true rfl) d_X7_proceedTwice_4 ⟨Nat.zero_le _, Nat.zero_le _⟩ (fun r4 μ4 ho4 hp4 => ?_)
  obtain ⟨rfl, hm4⟩ := hp4
  refine xj_mem hm4 ?_
  refine xj_istore E d_X7_proceedTwice_7 (by decide) rfl ?_
  refine xj_aload_n E d_X7_proceedTwice_9 rfl ?_
  refine xj_geti E fl_X7_22 (by decide) rfl (by decide) rfl d_X7_proceedTwice_10 ?_
  refine xj_if_eq (tgt := 18) E d_X7_proceedTwice_13 (by decide) (fun h13 => ?_) (fun h13 => ?_)
  · refine xj_iload E d_X7_proceedTwice_18 rfl ?_
    refine xj_aload_n E d_X7_proceedTwice_20 rfl ?_
    refine xj_aload_n E d_X7_proceedTwice_21 rfl ?_
    refine xj_iload_n E d_X7_proceedTwice_22 rfl ?_
    refine xj_iload_n E d_X7_proceedTwice_23 rfl ?_
    refine xj_callV E (k_X7_proceed l G hI n r k o (rPr (rn (μ 20 0) (μ 21 0) (μ 22 0 4) (μ 22 0 5) r (k + 1)) (μ 20 0 k) o S).2 μ hn hkr hE (rPr_le (rn_le _ _ _ _ _ _) hS)) cw_X7_70 cv_X7_proceed (by decide) rfl rfl rfl ⟨by show 4 * r + 3 + 1 ≤ 4 * r + 4; omega, by show 40 * (4 * r + 3) + 40 ≤ 40 * (4 * r + 4); omega⟩ (Nat.le_of_ble_eq_true rfl) d_X7_proceedTwice_24 ⟨Nat.zero_le _, Nat.zero_le _⟩ (fun r24 μ24 ho24 hp24 => ?_)
    obtain ⟨rfl, hm24⟩ := hp24
    refine xj_mem hm24 ?_
    refine xj_iadd E d_X7_proceedTwice_27 ?_
    exact xj_iret E hr hlk d_X7_proceedTwice_28 (by unfold rP2; rw [if_pos (show (rPr (rn (μ 20 0) (μ 21 0) (μ 22 0 4) (μ 22 0 5) r (k + 1)) (μ 20 0 k) o S).2.2.2.2 = 0 from h13)]; exact ⟨rfl, rfl⟩)
  refine xj_iconst (v := 0) E d_X7_proceedTwice_16 (by decide) ?_
  exact xj_iret E hr hlk d_X7_proceedTwice_17 (by unfold rP2; rw [if_neg (show ¬ (rPr (rn (μ 20 0) (μ 21 0) (μ 22 0 4) (μ 22 0 5) r (k + 1)) (μ 20 0 k) o S).2.2.2.2 = 0 from h13)]; exact ⟨rfl, rfl⟩)

set_option maxRecDepth 100000 in
set_option maxHeartbeats 4000000 in
/-- X7 growShared -/
theorem k_X7_growShared (l : Launch) (G : XG) (hI : XI G) (n r k : Nat) (S : RS) (μ : Mem) (hn : n ≤ 21) (hkr : k + 1 + r = n) (hE : EnterOK l G μ n r) (hS : S.1 ≤ 64) : XMet l G y_X7_growShared c_X7_growShared 3 (some .int) (4 * r + 4) [.inr (22, 0), .inr (19, 0), .inl (nI k)] (mrs μ S) (fun rr μ' => rr = some (.inl (rGs (rn (μ 20 0) (μ 21 0) (μ 22 0 4) (μ 22 0 5) r (k + 1)) (μ 20 0 k) (μ 22 0 4) S).1) ∧ μ' = mrs μ (rGs (rn (μ 20 0) (μ 21 0) (μ 22 0 4) (μ 22 0 5) r (k + 1)) (μ 20 0 k) (μ 22 0 4) S).2) := by
  refine xj_met (by decide) hI (Nat.le_of_ble_eq_true rfl) ?_
  intro p e s m args below meth c E hr hlk
  have E : XE G (xA G) RX7 c_X7_growShared 3 p s m args c := E
  refine xj_loc (L' := [some (.inr (22, 0)), some (.inr (19, 0)), some (.inl (nI k))]) rfl ?_
  refine xj_aload_n E d_X7_growShared_0 rfl ?_
  refine xj_geti E fl_X7_28 (by decide) rfl (by decide) rfl d_X7_growShared_1 ?_
  refine xj_iconst (v := 4) E d_X7_growShared_4 (by decide) ?_
  refine xj_icmp_lt (tgt := 15) E d_X7_growShared_5 (by decide) (fun h5 => ?_) (fun h5 => ?_)
  · refine xj_aload_n E d_X7_growShared_15 rfl ?_
    refine xj_dup E d_X7_growShared_16 ?_
    refine xj_geti E fl_X7_35 (by decide) rfl (by decide) rfl d_X7_growShared_17 ?_
    refine xj_iconst (v := 1) E d_X7_growShared_20 (by decide) ?_
    refine xj_iadd E d_X7_growShared_21 ?_
    refine xj_put E fp_X7_35 (by decide) rfl (by decide) rfl (narrow_i _) d_X7_growShared_22 ?_
    refine xj_mem (mrs_sh μ S _) ?_
    refine xj_iconst (v := 2) E d_X7_growShared_25 (by decide) ?_
    refine xj_aload_n E d_X7_growShared_26 rfl ?_
    refine xj_aload_n E d_X7_growShared_27 rfl ?_
    refine xj_iload_n E d_X7_growShared_28 rfl ?_
    refine xj_aload_n E d_X7_growShared_29 rfl ?_
    refine xj_geti E fl_X7_35 (by decide) rfl (by decide) rfl d_X7_growShared_30 ?_
    refine xj_callV E (k_X7_proceed l G hI n r k _ (rSh S (S.2.2.1 + 1)) μ hn hkr hE hS) cw_X7_70 cv_X7_proceed (by decide) rfl rfl rfl ⟨by show 4 * r + 3 + 1 ≤ 4 * r + 4; omega, by show 40 * (4 * r + 3) + 40 ≤ 40 * (4 * r + 4); omega⟩ (Nat.le_of_ble_eq_true rfl) d_X7_growShared_33 ⟨Nat.zero_le _, Nat.zero_le _⟩ (fun r33 μ33 ho33 hp33 => ?_)
    obtain ⟨rfl, hm33⟩ := hp33
    refine xj_mem hm33 ?_
    refine xj_imul E d_X7_growShared_36 ?_
    exact xj_iret E hr hlk d_X7_growShared_37 (by unfold rGs; rw [if_pos (show μ 22 0 4 < 4 from h5)]; exact ⟨rfl, rfl⟩)
  refine xj_aload_n E d_X7_growShared_8 rfl ?_
  refine xj_bipush (v := 50) E d_X7_growShared_9 (by decide) ?_
  refine xj_callV E (k_X7_fail l G hI _ _) cw_X7_47 cv_X7_fail (by decide) rfl rfl rfl ⟨by show 0 + 1 ≤ 4 * r + 4; omega, by show 40 * (0) + 40 ≤ 40 * (4 * r + 4); omega⟩ (Nat.le_of_ble_eq_true rfl) d_X7_growShared_11 ⟨Nat.zero_le _, Nat.zero_le _⟩ (fun r11 μ11 ho11 hp11 => ?_)
  obtain ⟨rfl, hm11⟩ := hp11
  refine xj_mem (hm11.trans (mrs_th μ S _)) ?_
  exact xj_iret E hr hlk d_X7_growShared_14 (by unfold rGs; rw [if_neg (show ¬ μ 22 0 4 < 4 from h5)]; exact ⟨rfl, rfl⟩)

set_option maxRecDepth 100000 in
set_option maxHeartbeats 4000000 in
/-- X7 proceedAndCatch -/
theorem k_X7_proceedAndCatch (l : Launch) (G : XG) (hI : XI G) (n r k : Nat) (o : Int32) (S : RS) (μ : Mem) (hn : n ≤ 21) (hkr : k + 1 + r = n) (hE : EnterOK l G μ n r) (hS : S.1 ≤ 64) : XMet l G y_X7_proceedAndCatch c_X7_proceedAndCatch 6 (some .int) (4 * r + 4) [.inr (22, 0), .inr (19, 0), .inl (nI k), .inl o] (mrs μ S) (fun rr μ' => rr = some (.inl (rPc (rn (μ 20 0) (μ 21 0) (μ 22 0 4) (μ 22 0 5) r (k + 1)) (μ 20 0 k) o S).1) ∧ μ' = mrs μ (rPc (rn (μ 20 0) (μ 21 0) (μ 22 0 4) (μ 22 0 5) r (k + 1)) (μ 20 0 k) o S).2) := by
  refine xj_met (by decide) hI (Nat.le_of_ble_eq_true rfl) ?_
  intro p e s m args below meth c E hr hlk
  have E : XE G (xA G) RX7 c_X7_proceedAndCatch 6 p s m args c := E
  refine xj_loc (L' := [some (.inr (22, 0)), some (.inr (19, 0)), some (.inl (nI k)), some (.inl o), none, none]) rfl ?_
  refine xj_aload_n E d_X7_proceedAndCatch_0 rfl ?_
  refine xj_aload_n E d_X7_proceedAndCatch_1 rfl ?_
  refine xj_iload_n E d_X7_proceedAndCatch_2 rfl ?_
  refine xj_iload_n E d_X7_proceedAndCatch_3 rfl ?_
  refine xj_callV E (k_X7_proceed l G hI n r k o S μ hn hkr hE hS) cw_X7_70 cv_X7_proceed (by decide) rfl rfl rfl ⟨by show 4 * r + 3 + 1 ≤ 4 * r + 4; omega, by show 40 * (4 * r + 3) + 40 ≤ 40 * (4 * r + 4); omega⟩ (Nat.le_of_ble_eq_true rfl) d_X7_proceedAndCatch_4 ⟨Nat.zero_le _, Nat.zero_le _⟩ (fun r4 μ4 ho4 hp4 => ?_)
  obtain ⟨rfl, hm4⟩ := hp4
  refine xj_mem hm4 ?_
  refine xj_istore E d_X7_proceedAndCatch_7 (by decide) rfl ?_
  refine xj_aload_n E d_X7_proceedAndCatch_9 rfl ?_
  refine xj_geti E fl_X7_22 (by decide) rfl (by decide) rfl d_X7_proceedAndCatch_10 ?_
  refine xj_if_eq (tgt := 25) E d_X7_proceedAndCatch_13 (by decide) (fun h13 => ?_) (fun h13 => ?_)
  · refine xj_iload E d_X7_proceedAndCatch_25 rfl ?_
    exact xj_iret E hr hlk d_X7_proceedAndCatch_27 (by first | (unfold rPc; rw [if_pos (show (rPr (rn (μ 20 0) (μ 21 0) (μ 22 0 4) (μ 22 0 5) r (k + 1)) (μ 20 0 k) o S).2.2.2.2 = 0 from h13)]; exact ⟨rfl, rfl⟩) | (unfold rPc; rw [if_neg (show ¬ (rPr (rn (μ 20 0) (μ 21 0) (μ 22 0 4) (μ 22 0 5) r (k + 1)) (μ 20 0 k) o S).2.2.2.2 = 0 from h13), if_pos (show (rPr (rn (μ 20 0) (μ 21 0) (μ 22 0 4) (μ 22 0 5) r (k + 1)) (μ 20 0 k) o S).2.2.2.2 = 99 from h22)]; exact ⟨rfl, rfl⟩))
  refine xj_aload_n E d_X7_proceedAndCatch_16 rfl ?_
  refine xj_geti E fl_X7_22 (by decide) rfl (by decide) rfl d_X7_proceedAndCatch_17 ?_
  refine xj_bipush (v := 99) E d_X7_proceedAndCatch_20 (by decide) ?_
  refine xj_icmp_ne (tgt := 28) E d_X7_proceedAndCatch_22 (by decide) (fun h22 => ?_) (fun h22 => ?_)
  · refine xj_aload_n E d_X7_proceedAndCatch_28 rfl ?_
    refine xj_geti E fl_X7_22 (by decide) rfl (by decide) rfl d_X7_proceedAndCatch_29 ?_
    refine xj_istore E d_X7_proceedAndCatch_32 (by decide) rfl ?_
    refine xj_aload_n E d_X7_proceedAndCatch_34 rfl ?_
    refine xj_iconst (v := 0) E d_X7_proceedAndCatch_35 (by decide) ?_
    refine xj_put E fp_X7_22 (by decide) rfl (by decide) rfl (narrow_i _) d_X7_proceedAndCatch_36 ?_
    refine xj_mem (mrs_th μ _ _) ?_
    refine xj_iload E d_X7_proceedAndCatch_39 rfl ?_
    refine xj_ineg E d_X7_proceedAndCatch_41 ?_
    exact xj_iret E hr hlk d_X7_proceedAndCatch_42 (by unfold rPc; rw [if_neg (show ¬ (rPr (rn (μ 20 0) (μ 21 0) (μ 22 0 4) (μ 22 0 5) r (k + 1)) (μ 20 0 k) o S).2.2.2.2 = 0 from h13), if_neg (show ¬ (rPr (rn (μ 20 0) (μ 21 0) (μ 22 0 4) (μ 22 0 5) r (k + 1)) (μ 20 0 k) o S).2.2.2.2 = 99 from h22)]; exact ⟨rfl, rfl⟩)
  refine xj_iload E d_X7_proceedAndCatch_25 rfl ?_
  exact xj_iret E hr hlk d_X7_proceedAndCatch_27 (by first | (unfold rPc; rw [if_pos (show (rPr (rn (μ 20 0) (μ 21 0) (μ 22 0 4) (μ 22 0 5) r (k + 1)) (μ 20 0 k) o S).2.2.2.2 = 0 from h13)]; exact ⟨rfl, rfl⟩) | (unfold rPc; rw [if_neg (show ¬ (rPr (rn (μ 20 0) (μ 21 0) (μ 22 0 4) (μ 22 0 5) r (k + 1)) (μ 20 0 k) o S).2.2.2.2 = 0 from h13), if_pos (show (rPr (rn (μ 20 0) (μ 21 0) (μ 22 0 4) (μ 22 0 5) r (k + 1)) (μ 20 0 k) o S).2.2.2.2 = 99 from h22)]; exact ⟨rfl, rfl⟩))
end
section
theorem sw5 {x : Int32} (h1 : ¬ x = 1) (h2 : ¬ x = 2) (h3 : ¬ x = 3) (h4 : ¬ x = 4) (h5 : ¬ x = 5) : x.toInt < 1 ∨ 5 < x.toInt := by
  have a1 := lv_neT (a := 1) h1 (by decide)
  have a2 := lv_neT (a := 2) h2 (by decide)
  have a3 := lv_neT (a := 3) h3 (by decide)
  have a4 := lv_neT (a := 4) h4 (by decide)
  have a5 := lv_neT (a := 5) h5 (by decide)
  omega

set_option maxRecDepth 100000 in
set_option maxHeartbeats 4000000 in
/-- X7 behave -/
theorem k_X7_behave (l : Launch) (G : XG) (hI : XI G) (n r k : Nat) (g : Int32) (S : RS) (μ : Mem) (hn : n ≤ 21) (hkr : k + 1 + r = n) (hE : EnterOK l G μ n r) (hS : S.1 ≤ 64) : XMet l G y_X7_behave c_X7_behave 6 (some .int) (4 * r + 5) [.inr (22, 0), .inr (19, 0), .inl (nI k), .inl g] (mrs μ S) (fun rr μ' => rr = some (.inl (rBv (rn (μ 20 0) (μ 21 0) (μ 22 0 4) (μ 22 0 5) r (k + 1)) (μ 20 0 k) (μ 21 0 k) (μ 22 0 4) g S).1) ∧ μ' = mrs μ (rBv (rn (μ 20 0) (μ 21 0) (μ 22 0 4) (μ 22 0 5) r (k + 1)) (μ 20 0 k) (μ 21 0 k) (μ 22 0 4) g S).2) := by
  refine xj_met (by decide) hI (Nat.le_of_ble_eq_true rfl) ?_
  intro p e s m args below meth c E hr hlk
  have E : XE G (xA G) RX7 c_X7_behave 6 p s m args c := E
  refine xj_loc (L' := [some (.inr (22, 0)), some (.inr (19, 0)), some (.inl (nI k)), some (.inl g), none, none]) rfl ?_
  have hcl : (nI k).toNatClampNeg = k := cl_nI (by omega)
  have hin : vp_in (nI k) 21 := in_nI (by omega) (by omega)
  have hsw : ∀ z : Int32, (z = 1 ∧ μ 20 0 k < 16 ∨ z = 0 ∧ ¬ μ 20 0 k < 16) → XJ G (xA G) 6 p l e (xr (4 * r + 5)) s m args below meth c 0 0 (MQ below (xQ G (fun rr μ' => rr = some (.inl (rBv (rn (μ 20 0) (μ 21 0) (μ 22 0 4) (μ 22 0 5) r (k + 1)) (μ 20 0 k) (μ 21 0 k) (μ 22 0 4) g S).1) ∧ μ' = mrs μ (rBv (rn (μ 20 0) (μ 21 0) (μ 22 0 4) (μ 22 0 5) r (k + 1)) (μ 20 0 k) (μ 21 0 k) (μ 22 0 4) g S).2)) args s 0 0 (xA G)) 22 [some (.inr (22, 0)), some (.inr (19, 0)), some (.inl (nI k)), some (.inl g), some (.inl (μ 20 0 k)), some (.inl z)] [] (mrs μ S) := by
    intro z hz
    have hz0 : z = 0 → ¬ μ 20 0 k < 16 := fun q => by
      rcases hz with h | h
      · exact absurd (h.1.symm.trans q) i1_0
      · exact h.2
    have hz1 : ¬ z = 0 → μ 20 0 k < 16 := fun q => by
      rcases hz with h | h
      · exact h.2
      · exact absurd h.1 q
    refine xj_aload_n E d_X7_behave_22 rfl ?_
    refine xj_geta E fl_X7_60 (by decide) rfl (by decide) rfl d_X7_behave_23 ?_
    refine xj_iload_n E d_X7_behave_26 rfl ?_
    refine xj_iald E (by decide) hin d_X7_behave_27 ?_
    refine xj_st (st' := [.inl (μ 21 0 k)]) (by rw [hcl]; rfl) ?_
    by_cases hb1 : μ 21 0 k = 1
    · refine xj_st (st' := [.inl 1]) (by rw [hb1]) ?_
      refine xj_tableIn (tgt := 64) (off := 36) E d_X7_behave_28 (by decide) (by decide) (by decide) (by decide) ?_
      refine xj_aload_n E d_X7_behave_64 rfl ?_
      refine xj_aload_n E d_X7_behave_65 rfl ?_
      refine xj_iload_n E d_X7_behave_66 rfl ?_
      refine xj_iload_n E d_X7_behave_67 rfl ?_
      refine xj_callV E (k_X7_proceedTwice l G hI n r k g S μ hn hkr hE hS) cw_X7_63 cv_X7_proceedTwice (by decide) rfl rfl rfl ⟨by show 4 * r + 4 + 1 ≤ 4 * r + 5; omega, by show 40 * (4 * r + 4) + 40 ≤ 40 * (4 * r + 5); omega⟩ (Nat.le_of_ble_eq_true rfl) d_X7_behave_68 ⟨Nat.zero_le _, Nat.zero_le _⟩ (fun r68 μ68 ho68 hp68 => ?_)
      obtain ⟨rfl, hm68⟩ := hp68
      refine xj_mem hm68 ?_
      exact xj_iret E hr hlk d_X7_behave_71 (by unfold rBv; rw [if_pos hb1]; exact ⟨rfl, rfl⟩)
    by_cases hb2 : μ 21 0 k = 2
    · refine xj_st (st' := [.inl 2]) (by rw [hb2]) ?_
      refine xj_tableIn (tgt := 72) (off := 44) E d_X7_behave_28 (by decide) (by decide) (by decide) (by decide) ?_
      refine xj_iload E d_X7_behave_72 rfl ?_
      refine xj_if_eq (tgt := 84) E d_X7_behave_74 (by decide) (fun h74 => ?_) (fun h74 => ?_)
      · refine xj_iload_n E d_X7_behave_84 rfl ?_
        exact xj_iret E hr hlk d_X7_behave_85 (by first | (unfold rBv; rw [if_neg hb1, if_pos hb2]; rw [if_neg (hz0 h74)]; exact ⟨rfl, rfl⟩) | (unfold rBv; rw [if_neg hb1, if_pos hb2]; rw [if_pos (hz1 h74)]; exact ⟨rfl, rfl⟩))
      refine xj_aload_n E d_X7_behave_77 rfl ?_
      refine xj_geti E fl_X7_35 (by decide) rfl (by decide) rfl d_X7_behave_78 ?_
      refine xj_goto (tgt := 85) E d_X7_behave_81 (by decide) ?_
      exact xj_iret E hr hlk d_X7_behave_85 (by first | (unfold rBv; rw [if_neg hb1, if_pos hb2]; rw [if_neg (hz0 h74)]; exact ⟨rfl, rfl⟩) | (unfold rBv; rw [if_neg hb1, if_pos hb2]; rw [if_pos (hz1 h74)]; exact ⟨rfl, rfl⟩))
    by_cases hb3 : μ 21 0 k = 3
    · refine xj_st (st' := [.inl 3]) (by rw [hb3]) ?_
      refine xj_tableIn (tgt := 86) (off := 58) E d_X7_behave_28 (by decide) (by decide) (by decide) (by decide) ?_
      refine xj_iload E d_X7_behave_86 rfl ?_
      refine xj_if_eq (tgt := 100) E d_X7_behave_88 (by decide) (fun h88 => ?_) (fun h88 => ?_)
      · refine xj_iconst (v := 2) E d_X7_behave_100 (by decide) ?_
        refine xj_aload_n E d_X7_behave_101 rfl ?_
        refine xj_aload_n E d_X7_behave_102 rfl ?_
        refine xj_iload_n E d_X7_behave_103 rfl ?_
        refine xj_iload_n E d_X7_behave_104 rfl ?_
        refine xj_iconst (v := 1) E d_X7_behave_105 (by decide) ?_
        refine xj_iadd E d_X7_behave_106 ?_
        refine xj_callV E (k_X7_proceed l G hI n r k (g + 1) S μ hn hkr hE hS) cw_X7_70 cv_X7_proceed (by decide) rfl rfl rfl ⟨by show 4 * r + 3 + 1 ≤ 4 * r + 5; omega, by show 40 * (4 * r + 3) + 40 ≤ 40 * (4 * r + 5); omega⟩ (Nat.le_of_ble_eq_true rfl) d_X7_behave_107 ⟨Nat.zero_le _, Nat.zero_le _⟩ (fun r107 μ107 ho107 hp107 => ?_)
        obtain ⟨rfl, hm107⟩ := hp107
        refine xj_mem hm107 ?_
        refine xj_imul E d_X7_behave_110 ?_
        exact xj_iret E hr hlk d_X7_behave_111 (by first | (unfold rBv; rw [if_neg hb1, if_neg hb2, if_pos hb3]; rw [if_neg (hz0 h88)]; exact ⟨rfl, rfl⟩) | (unfold rBv; rw [if_neg hb1, if_neg hb2, if_pos hb3]; rw [if_pos (hz1 h88)]; exact ⟨rfl, rfl⟩))
      refine xj_aload_n E d_X7_behave_91 rfl ?_
      refine xj_aload_n E d_X7_behave_92 rfl ?_
      refine xj_iload_n E d_X7_behave_93 rfl ?_
      refine xj_callV E (k_X7_growShared l G hI n r k S μ hn hkr hE hS) cw_X7_66 cv_X7_growShared (by decide) rfl rfl rfl ⟨by show 4 * r + 4 + 1 ≤ 4 * r + 5; omega, by show 40 * (4 * r + 4) + 40 ≤ 40 * (4 * r + 5); omega⟩ (Nat.le_of_ble_eq_true rfl) d_X7_behave_94 ⟨Nat.zero_le _, Nat.zero_le _⟩ (fun r94 μ94 ho94 hp94 => ?_)
      obtain ⟨rfl, hm94⟩ := hp94
      refine xj_mem hm94 ?_
      refine xj_goto (tgt := 111) E d_X7_behave_97 (by decide) ?_
      exact xj_iret E hr hlk d_X7_behave_111 (by first | (unfold rBv; rw [if_neg hb1, if_neg hb2, if_pos hb3]; rw [if_neg (hz0 h88)]; exact ⟨rfl, rfl⟩) | (unfold rBv; rw [if_neg hb1, if_neg hb2, if_pos hb3]; rw [if_pos (hz1 h88)]; exact ⟨rfl, rfl⟩))
    by_cases hb4 : μ 21 0 k = 4
    · refine xj_st (st' := [.inl 4]) (by rw [hb4]) ?_
      refine xj_tableIn (tgt := 112) (off := 84) E d_X7_behave_28 (by decide) (by decide) (by decide) (by decide) ?_
      refine xj_aload_n E d_X7_behave_112 rfl ?_
      refine xj_iconst (v := 1) E d_X7_behave_113 (by decide) ?_
      refine xj_iload E d_X7_behave_114 rfl ?_
      refine xj_iadd E d_X7_behave_116 ?_
      refine xj_callV E (k_X7_fail l G hI _ _) cw_X7_47 cv_X7_fail (by decide) rfl rfl rfl ⟨by show 0 + 1 ≤ 4 * r + 5; omega, by show 40 * (0) + 40 ≤ 40 * (4 * r + 5); omega⟩ (Nat.le_of_ble_eq_true rfl) d_X7_behave_117 ⟨Nat.zero_le _, Nat.zero_le _⟩ (fun r117 μ117 ho117 hp117 => ?_)
      obtain ⟨rfl, hm117⟩ := hp117
      refine xj_mem (hm117.trans (mrs_th μ S _)) ?_
      exact xj_iret E hr hlk d_X7_behave_120 (by unfold rBv; rw [if_neg hb1, if_neg hb2, if_neg hb3, if_pos hb4]; exact ⟨rfl, rfl⟩)
    by_cases hb5 : μ 21 0 k = 5
    · refine xj_st (st' := [.inl 5]) (by rw [hb5]) ?_
      refine xj_tableIn (tgt := 121) (off := 93) E d_X7_behave_28 (by decide) (by decide) (by decide) (by decide) ?_
      refine xj_aload_n E d_X7_behave_121 rfl ?_
      refine xj_aload_n E d_X7_behave_122 rfl ?_
      refine xj_iload_n E d_X7_behave_123 rfl ?_
      refine xj_iload_n E d_X7_behave_124 rfl ?_
      refine xj_callV E (k_X7_proceedAndCatch l G hI n r k g S μ hn hkr hE hS) cw_X7_73 cv_X7_proceedAndCatch (by decide) rfl rfl rfl ⟨by show 4 * r + 4 + 1 ≤ 4 * r + 5; omega, by show 40 * (4 * r + 4) + 40 ≤ 40 * (4 * r + 5); omega⟩ (Nat.le_of_ble_eq_true rfl) d_X7_behave_125 ⟨Nat.zero_le _, Nat.zero_le _⟩ (fun r125 μ125 ho125 hp125 => ?_)
      obtain ⟨rfl, hm125⟩ := hp125
      refine xj_mem hm125 ?_
      exact xj_iret E hr hlk d_X7_behave_128 (by unfold rBv; rw [if_neg hb1, if_neg hb2, if_neg hb3, if_neg hb4, if_pos hb5]; exact ⟨rfl, rfl⟩)
    refine xj_tableOut (tgt := 129) E d_X7_behave_28 (sw5 hb1 hb2 hb3 hb4 hb5) (by decide) ?_
    refine xj_aload_n E d_X7_behave_129 rfl ?_
    refine xj_aload_n E d_X7_behave_130 rfl ?_
    refine xj_iload_n E d_X7_behave_131 rfl ?_
    refine xj_iload_n E d_X7_behave_132 rfl ?_
    refine xj_callV E (k_X7_proceed l G hI n r k g S μ hn hkr hE hS) cw_X7_70 cv_X7_proceed (by decide) rfl rfl rfl ⟨by show 4 * r + 3 + 1 ≤ 4 * r + 5; omega, by show 40 * (4 * r + 3) + 40 ≤ 40 * (4 * r + 5); omega⟩ (Nat.le_of_ble_eq_true rfl) d_X7_behave_133 ⟨Nat.zero_le _, Nat.zero_le _⟩ (fun r133 μ133 ho133 hp133 => ?_)
    obtain ⟨rfl, hm133⟩ := hp133
    refine xj_mem hm133 ?_
    exact xj_iret E hr hlk d_X7_behave_136 (by unfold rBv; rw [if_neg hb1, if_neg hb2, if_neg hb3, if_neg hb4, if_neg hb5]; exact ⟨rfl, rfl⟩)
  refine xj_aload_n E d_X7_behave_0 rfl ?_
  refine xj_geta E fl_X7_51 (by decide) rfl (by decide) rfl d_X7_behave_1 ?_
  refine xj_iload_n E d_X7_behave_4 rfl ?_
  refine xj_iald E (by decide) hin d_X7_behave_5 ?_
  refine xj_st (st' := [.inl (μ 20 0 k)]) (by rw [hcl]; rfl) ?_
  refine xj_istore E d_X7_behave_6 (by decide) rfl ?_
  refine xj_iload E d_X7_behave_8 rfl ?_
  refine xj_bipush (v := 16) E d_X7_behave_10 (by decide) ?_
  refine xj_icmp_ge (tgt := 19) E d_X7_behave_12 (by decide) (fun h12 => ?_) (fun h12 => ?_)
  · refine xj_iconst (v := 0) E d_X7_behave_19 (by decide) ?_
    refine xj_istore E d_X7_behave_20 (by decide) rfl ?_
    first
      | exact hsw 0 (Or.inr ⟨rfl, Int32.not_lt.mpr h12⟩)
      | exact hsw 1 (Or.inl ⟨rfl, Int32.not_le.mp h12⟩)
  refine xj_iconst (v := 1) E d_X7_behave_15 (by decide) ?_
  refine xj_goto (tgt := 20) E d_X7_behave_16 (by decide) ?_
  refine xj_istore E d_X7_behave_20 (by decide) rfl ?_
  first
    | exact hsw 0 (Or.inr ⟨rfl, Int32.not_lt.mpr h12⟩)
    | exact hsw 1 (Or.inl ⟨rfl, Int32.not_le.mp h12⟩)

set_option maxRecDepth 100000 in
set_option maxHeartbeats 4000000 in
/-- enter, at every place of the chain -/
theorem k_X7_enter (l : Launch) (G : XG) (hI : XI G) (μ : Mem) (n : Nat) (hn : n ≤ 21) (hc : μ 19 0 0 = nI n) : ∀ r, EnterOK l G μ n r := by
  intro r
  induction r with
  | zero =>
    intro k g S hk hS
    refine xj_met (by decide) hI (Nat.le_of_ble_eq_true rfl) ?_
    intro p e s m args below meth c E hr hlk
    have E : XE G (xA G) RX7 c_X7_enter 5 p s m args c := E
    refine xj_loc (L' := [some (.inr (22, 0)), some (.inr (19, 0)), some (.inl (nI k)), some (.inl g), none]) rfl ?_
    have hcl : (nI k).toNatClampNeg = k := cl_nI (by omega)
    have hcl2 : (nI S.1).toNatClampNeg = S.1 := cl_nI (by omega)
    refine xj_iload_n E d_X7_enter_0 rfl ?_
    refine xj_if_lt (tgt := 12) E d_X7_enter_1 (by decide) (fun h1 => absurd h1 (nI_pos (by omega))) (fun h1 => ?_)
    refine xj_iload_n E d_X7_enter_4 rfl ?_
    refine xj_aload_n E d_X7_enter_5 rfl ?_
    refine xj_geti E fl_X7_42 (by decide) rfl (by decide) rfl d_X7_enter_6 ?_
    refine xj_icmp_lt (tgt := 14) E d_X7_enter_9 (by decide) (fun h9 => absurd (show nI k < nI n by rw [← hc]; exact h9) (nI_nlt (by omega) (by omega))) (fun h9 => ?_)
    refine xj_iconst (v := 0) E d_X7_enter_12 (by decide) ?_
    exact xj_iret E hr hlk d_X7_enter_13 ⟨rfl, rfl⟩
  | succ r ih =>
    intro k g S hk hS
    refine xj_met (by decide) hI (Nat.le_of_ble_eq_true rfl) ?_
    intro p e s m args below meth c E hr hlk
    have E : XE G (xA G) RX7 c_X7_enter 5 p s m args c := E
    refine xj_loc (L' := [some (.inr (22, 0)), some (.inr (19, 0)), some (.inl (nI k)), some (.inl g), none]) rfl ?_
    have hcl : (nI k).toNatClampNeg = k := cl_nI (by omega)
    have hcl2 : (nI S.1).toNatClampNeg = S.1 := cl_nI (by omega)
    refine xj_iload_n E d_X7_enter_0 rfl ?_
    refine xj_if_lt (tgt := 12) E d_X7_enter_1 (by decide) (fun h1 => absurd h1 (nI_pos (by omega))) (fun h1 => ?_)
    refine xj_iload_n E d_X7_enter_4 rfl ?_
    refine xj_aload_n E d_X7_enter_5 rfl ?_
    refine xj_geti E fl_X7_42 (by decide) rfl (by decide) rfl d_X7_enter_6 ?_
    refine xj_icmp_lt (tgt := 14) E d_X7_enter_9 (by decide) (fun h9 => ?_) (fun h9 => absurd (show mrs μ S 19 0 0 = nI n from hc) (fun q => h9 (by rw [q]; exact nI_lt (by omega) (by omega))))
    refine xj_aload_n E d_X7_enter_14 rfl ?_
    refine xj_geti E fl_X7_15 (by decide) rfl (by decide) rfl d_X7_enter_15 ?_
    refine xj_bipush (v := 64) E d_X7_enter_18 (by decide) ?_
    refine xj_icmp_lt (tgt := 30) E d_X7_enter_20 (by decide) (fun h20 => ?_) (fun h20 => ?_)
    · have hlt : S.1 < 64 := (nI_ltI (b := 64) (by omega) (by omega)).mp h20
      refine xj_aload_n E d_X7_enter_30 rfl ?_
      refine xj_geta E fl_X7_51 (by decide) rfl (by decide) rfl d_X7_enter_31 ?_
      refine xj_iload_n E d_X7_enter_34 rfl ?_
      refine xj_iald E (by decide) (show vp_in (nI k) 21 from in_nI (by omega) (by omega)) d_X7_enter_35 ?_
      refine xj_st (st' := [.inl (μ 20 0 k)]) (by rw [hcl]; rfl) ?_
      refine xj_istore E d_X7_enter_36 (by decide) rfl ?_
      refine xj_aload_n E d_X7_enter_38 rfl ?_
      refine xj_geta E fl_X7_9 (by decide) rfl (by decide) rfl d_X7_enter_39 ?_
      refine xj_aload_n E d_X7_enter_42 rfl ?_
      refine xj_geti E fl_X7_15 (by decide) rfl (by decide) rfl d_X7_enter_43 ?_
      refine xj_iload E d_X7_enter_46 rfl ?_
      refine xj_iast E (by decide) (show vp_in (nI S.1) 64 from in_nI hlt (by omega)) d_X7_enter_48 ?_
      refine xj_aload_n E d_X7_enter_49 rfl ?_
      refine xj_dup E d_X7_enter_50 ?_
      refine xj_geti E fl_X7_15 (by decide) rfl (by decide) rfl d_X7_enter_51 ?_
      refine xj_iconst (v := 1) E d_X7_enter_54 (by decide) ?_
      refine xj_iadd E d_X7_enter_55 ?_
      refine xj_put E fp_X7_15 (by decide) rfl (by decide) rfl (narrow_i _) d_X7_enter_56 ?_
      refine xj_mem (μ' := mrs μ (rLog S (μ 20 0 k))) (by
        rw [← mrs_log, ← nI_1]
        show mset (mset (mrs μ S) 23 0 (nI S.1).toNatClampNeg (μ 20 0 k)) 22 0 1 (nI S.1 + 1) = _
        rw [hcl2]) ?_
      refine xj_iload E d_X7_enter_59 rfl ?_
      refine xj_bipush (v := 32) E d_X7_enter_61 (by decide) ?_
      refine xj_icmp_ne (tgt := 74) E d_X7_enter_63 (by decide) (fun h63 => ?_) (fun h63 => ?_)
      · refine xj_aload_n E d_X7_enter_74 rfl ?_
        refine xj_aload_n E d_X7_enter_75 rfl ?_
        refine xj_iload_n E d_X7_enter_76 rfl ?_
        refine xj_iload_n E d_X7_enter_77 rfl ?_
        refine xj_callV E (k_X7_behave l G hI n r k g (rLog S (μ 20 0 k)) μ hn (by omega) ih hlt) cw_X7_57 cv_X7_behave (by decide) rfl rfl rfl ⟨by show 4 * r + 5 + 1 ≤ 4 * (r + 1) + 2; omega, by show 40 * (4 * r + 5) + 40 ≤ 40 * (4 * (r + 1) + 2); omega⟩ (Nat.le_of_ble_eq_true rfl) d_X7_enter_78 ⟨Nat.zero_le _, Nat.zero_le _⟩ (fun r78 μ78 ho78 hp78 => ?_)
        obtain ⟨rfl, hm78⟩ := hp78
        refine xj_mem hm78 ?_
        exact xj_iret E hr hlk d_X7_enter_81 (by first | (unfold rn; rw [if_pos hlt, if_pos h63]; exact ⟨rfl, rfl⟩) | (unfold rn; rw [if_pos hlt, if_neg h63]; exact ⟨rfl, rfl⟩))
      refine xj_aload_n E d_X7_enter_66 rfl ?_
      refine xj_iload_n E d_X7_enter_67 rfl ?_
      refine xj_callV E (k_X7_reachTarget l G hI g (rLog S (μ 20 0 k)) μ) cw_X7_54 cv_X7_reachTarget (by decide) rfl rfl rfl ⟨by show 1 + 1 ≤ 4 * (r + 1) + 2; omega, by show 40 * (1) + 40 ≤ 40 * (4 * (r + 1) + 2); omega⟩ (Nat.le_of_ble_eq_true rfl) d_X7_enter_68 ⟨Nat.zero_le _, Nat.zero_le _⟩ (fun r68 μ68 ho68 hp68 => ?_)
      obtain ⟨rfl, hm68⟩ := hp68
      refine xj_mem hm68 ?_
      refine xj_goto (tgt := 81) E d_X7_enter_71 (by decide) ?_
      exact xj_iret E hr hlk d_X7_enter_81 (by first | (unfold rn; rw [if_pos hlt, if_pos h63]; exact ⟨rfl, rfl⟩) | (unfold rn; rw [if_pos hlt, if_neg h63]; exact ⟨rfl, rfl⟩))
    refine xj_aload_n E d_X7_enter_23 rfl ?_
    refine xj_bipush (v := 99) E d_X7_enter_24 (by decide) ?_
    refine xj_callV E (k_X7_fail l G hI _ _) cw_X7_47 cv_X7_fail (by decide) rfl rfl rfl ⟨by show 0 + 1 ≤ 4 * (r + 1) + 2; omega, by show 40 * (0) + 40 ≤ 40 * (4 * (r + 1) + 2); omega⟩ (Nat.le_of_ble_eq_true rfl) d_X7_enter_26 ⟨Nat.zero_le _, Nat.zero_le _⟩ (fun r26 μ26 ho26 hp26 => ?_)
    obtain ⟨rfl, hm26⟩ := hp26
    refine xj_mem (hm26.trans (mrs_th μ S _)) ?_
    exact xj_iret E hr hlk d_X7_enter_29 (by unfold rn; rw [if_neg (fun q => h20 (nI_lt (b := 64) q (by omega)))]; exact ⟨rfl, rfl⟩)

/-- the memory behind a run -/
def mrun (μ : Mem) (y z : Int32) (q : Int32 × RS) : Mem := mset (mrs (mset (mset (mset (mset (mset (mset μ 22 0 1 0) 22 0 2 0) 22 0 3 0) 22 0 4 y) 22 0 5 z) 22 0 6 0) q.2) 22 0 2 (if q.2.2.2.2 = 0 then q.1 else 0)
theorem mrs_start (μ : Mem) (y z a : Int32) : mset (mset (mset (mset (mset (mset μ 22 0 1 0) 22 0 2 0) 22 0 3 0) 22 0 4 y) 22 0 5 z) 22 0 6 a = mrs (mset (mset (mset (mset (mset (mset μ 22 0 1 0) 22 0 2 0) 22 0 3 0) 22 0 4 y) 22 0 5 z) 22 0 6 0) (0, μ 23 0, a, 0) := by
  refine mrs_22 (S := (0, μ 23 0, a, 0)) rfl ?_ (fun f i h1 h2 => by rw [mset_ne h2, mset_ne h2, mset_ne h2, mset_ne h2, mset_ne h2, mset_ne h2, mset_ne h2, mset_ne h2, mset_ne h2, mset_ne h2, mset_ne h2, mset_ne h2])
  funext j
  rw [mset_same, mset_same, mset_same, mset_same, mset_same, mset_same, mset_same]
  by_cases h6 : j = 6
  · subst h6; simp [upd]
  · by_cases h3 : j = 3
    · subst h3; simp [upd]
    · by_cases h1 : j = 1
      · subst h1; simp [upd]; rfl
      · simp [mset_same, upd, h6, h3, h1]

set_option maxRecDepth 100000 in
set_option maxHeartbeats 4000000 in
/-- X7 run -/
theorem k_X7_run (l : Launch) (G : XG) (hI : XI G) (n : Nat) (y a z : Int32) (μ : Mem) (hn : n ≤ 21) (hc : μ 19 0 0 = nI n) (hz : z = 0 ∨ z = 1) : XMet l G y_X7_run c_X7_run 6 none 87 [.inr (22, 0), .inr (19, 0), .inl y, .inl a, .inl z] μ (fun r μ' => r = none ∧ μ' = mrun μ y z (rn (μ 20 0) (μ 21 0) y z n 0 a (0, μ 23 0, a, 0))) := by
  refine xj_met (by decide) hI (Nat.le_of_ble_eq_true rfl) ?_
  intro p e s m args below meth c E hr hlk
  have E : XE G (xA G) RX7 c_X7_run 6 p s m args c := E
  refine xj_loc (L' := [some (.inr (22, 0)), some (.inr (19, 0)), some (.inl y), some (.inl a), some (.inl z), none]) rfl ?_
  refine xj_aload_n E d_X7_run_0 rfl ?_
  refine xj_callV E (k_X7_forget l G hI _) cw_X7_25 cv_X7_forget (by decide) rfl rfl rfl ⟨by decide, by decide⟩ (Nat.le_of_ble_eq_true rfl) d_X7_run_1 ⟨Nat.zero_le _, Nat.zero_le _⟩ (fun r1 μ1 ho1 hp1 => ?_)
  obtain ⟨rfl, hm1⟩ := hp1
  refine xj_mem hm1 ?_
  refine xj_aload_n E d_X7_run_4 rfl ?_
  refine xj_iload_n E d_X7_run_5 rfl ?_
  refine xj_put E fp_X7_28 (by decide) rfl (by decide) rfl (narrow_i _) d_X7_run_6 ?_
  refine xj_aload_n E d_X7_run_9 rfl ?_
  refine xj_iload E d_X7_run_10 rfl ?_
  refine xj_put E fp_X7_31 (by decide) rfl (by decide) rfl (narrow_z hz) d_X7_run_12 ?_
  refine xj_aload_n E d_X7_run_15 rfl ?_
  refine xj_iload_n E d_X7_run_16 rfl ?_
  refine xj_put E fp_X7_35 (by decide) rfl (by decide) rfl (narrow_i _) d_X7_run_17 ?_
  refine xj_mem (mrs_start μ y z a) ?_
  refine xj_aload_n E d_X7_run_20 rfl ?_
  refine xj_aload_n E d_X7_run_21 rfl ?_
  refine xj_iconst (v := 0) E d_X7_run_22 (by decide) ?_
  refine xj_iload_n E d_X7_run_23 rfl ?_
  refine xj_callV E (k_X7_enter l G hI (mset (mset (mset (mset (mset (mset μ 22 0 1 0) 22 0 2 0) 22 0 3 0) 22 0 4 y) 22 0 5 z) 22 0 6 0) n hn hc n 0 a (0, μ 23 0, a, 0) (by omega) (Nat.zero_le _)) cw_X7_38 cv_X7_enter (by decide) rfl rfl rfl ⟨by show 4 * n + 2 + 1 ≤ 87; omega, by show 40 * (4 * n + 2) + 40 ≤ 40 * 87; omega⟩ (Nat.le_of_ble_eq_true rfl) d_X7_run_24 ⟨Nat.zero_le _, Nat.zero_le _⟩ (fun r24 μ24 ho24 hp24 => ?_)
  obtain ⟨rfl, hm24⟩ := hp24
  refine xj_mem (μ' := mrs (mset (mset (mset (mset (mset (mset μ 22 0 1 0) 22 0 2 0) 22 0 3 0) 22 0 4 y) 22 0 5 z) 22 0 6 0) (rn (μ 20 0) (μ 21 0) y z n 0 a (0, μ 23 0, a, 0)).2) (hm24.trans rfl) ?_
  refine xj_istore E d_X7_run_27 (by decide) rfl ?_
  refine xj_aload_n E d_X7_run_29 rfl ?_
  refine xj_aload_n E d_X7_run_30 rfl ?_
  refine xj_geti E fl_X7_22 (by decide) rfl (by decide) rfl d_X7_run_31 ?_
  refine xj_if_ne (tgt := 42) E d_X7_run_34 (by decide) (fun h34 => ?_) (fun h34 => ?_)
  · refine xj_iconst (v := 0) E d_X7_run_42 (by decide) ?_
    refine xj_put E fp_X7_19 (by decide) rfl (by decide) rfl (narrow_i _) d_X7_run_43 ?_
    exact xj_vret E hr hlk d_X7_run_46 (by first | exact ⟨rfl, by unfold mrun; rw [if_pos (show (rn (μ 20 0) (μ 21 0) y z n 0 a (0, μ 23 0, a, 0)).2.2.2.2 = 0 from h34)]; rfl⟩ | exact ⟨rfl, by unfold mrun; rw [if_neg (show ¬ (rn (μ 20 0) (μ 21 0) y z n 0 a (0, μ 23 0, a, 0)).2.2.2.2 = 0 from h34)]⟩)
  refine xj_iload E d_X7_run_37 rfl ?_
  refine xj_goto (tgt := 43) E d_X7_run_39 (by decide) ?_
  refine xj_put E fp_X7_19 (by decide) rfl (by decide) rfl (narrow_i _) d_X7_run_43 ?_
  exact xj_vret E hr hlk d_X7_run_46 (by first | exact ⟨rfl, by unfold mrun; rw [if_pos (show (rn (μ 20 0) (μ 21 0) y z n 0 a (0, μ 23 0, a, 0)).2.2.2.2 = 0 from h34)]; rfl⟩ | exact ⟨rfl, by unfold mrun; rw [if_neg (show ¬ (rn (μ 20 0) (μ 21 0) y z n 0 a (0, μ 23 0, a, 0)).2.2.2.2 = 0 from h34)]⟩)
end
section
/-- a number below n -/
def inR (x : Int32) (n : Nat) : Prop := ∃ t, t < n ∧ x = nI t
theorem inR.ge {x : Int32} {n : Nat} (h : inR x n) (hn : n ≤ 1000) : ¬ x < 0 := by
  obtain ⟨t, ht, rfl⟩ := h
  exact nI_pos (by omega)
theorem inR.in {x : Int32} {n m : Nat} (h : inR x n) (hnm : n ≤ m) (hm : m ≤ 1000) : vp_in x m := by
  obtain ⟨t, ht, rfl⟩ := h
  exact in_nI (by omega) hm
theorem inR_of {x : Int32} {n : Nat} (h0 : ¬ x < 0) (h : x < nI n) (hn : n ≤ 1000) : inR x n := by
  obtain ⟨j, hj, rfl⟩ := nI_of h0
  exact ⟨j, (nI_ltI hj (by omega)).mp h, rfl⟩
theorem inR_lt {x : Int32} {n : Nat} (h : inR x n) (hn : n ≤ 1000) : x < nI n := by
  obtain ⟨t, ht, rfl⟩ := h
  exact nI_lt ht (by omega)
theorem inR_y {x N : Int32} {n : Nat} (hN : N = nI n) (hn : n ≤ 1000) (h : ¬ (if x < 0 then (0 : Int32) else if N ≤ x then 0 else 1) = 0) : inR x n := by
  by_cases h1 : x < 0
  · rw [if_pos h1] at h; exact absurd rfl h
  · rw [if_neg h1] at h
    by_cases h2 : N ≤ x
    · rw [if_pos h2] at h; exact absurd rfl h
    · exact inR_of h1 (by rw [← hN]; exact Int32.not_le.mp h2) hn
theorem inR_n {x N : Int32} {n : Nat} (hN : N = nI n) (hn : n ≤ 1000) (h : (if x < 0 then (0 : Int32) else if N ≤ x then 0 else 1) = 0) : ¬ inR x n := by
  intro q
  rw [if_neg (q.ge hn), if_neg (by rw [hN]; exact Int32.not_le.mpr (inR_lt q hn))] at h
  exact i1_0 h
theorem inW_y {x N : Int32} (n : Nat) (hN : N = nI n) (hn : n ≤ 999) (h : ¬ (if x < 0 then (0 : Int32) else if N < x then 0 else 1) = 0) : inR x (n + 1) := by
  by_cases h1 : x < 0
  · rw [if_pos h1] at h; exact absurd rfl h
  · rw [if_neg h1] at h
    by_cases h2 : N < x
    · rw [if_pos h2] at h; exact absurd rfl h
    · obtain ⟨j, hj, rfl⟩ := nI_of h1
      rw [hN] at h2
      exact ⟨j, by
        have := Nat.not_lt.mp (fun q => h2 (nI_lt q hj))
        omega, rfl⟩
theorem inW_n {x N : Int32} (n : Nat) (hN : N = nI n) (hn : n ≤ 999) (h : (if x < 0 then (0 : Int32) else if N < x then 0 else 1) = 0) : ¬ inR x (n + 1) := by
  rintro ⟨t, ht, rfl⟩
  rw [if_neg (nI_pos (by omega)), if_neg (by rw [hN]; exact nI_nlt (by omega) (by omega))] at h
  exact i1_0 h
/-- the place that a component and a method name: the method, or -1 for the component itself -/
def inP (x y : Int32) (n : Nat) (q : Nat) : Prop := ∃ j s, j < n ∧ s < 5 ∧ x = nI j ∧ y = nI s - 1 ∧ q = 5 * j + s
theorem place_y {x y N : Int32} {n : Nat} (hN : N = nI n) (hn : n ≤ 1000) (h : ¬ (if (if x < 0 then (0 : Int32) else if N ≤ x then 0 else 1) = 0 then (0 : Int32) else if y < -1 then 0 else if 4 ≤ y then 0 else 1) = 0) : inR x n ∧ ¬ y < -1 ∧ ¬ 4 ≤ y := by
  by_cases h1 : (if x < 0 then (0 : Int32) else if N ≤ x then 0 else 1) = 0
  · rw [if_pos h1] at h; exact absurd rfl h
  · rw [if_neg h1] at h
    by_cases h2 : y < -1
    · rw [if_pos h2] at h; exact absurd rfl h
    · rw [if_neg h2] at h
      by_cases h3 : 4 ≤ y
      · rw [if_pos h3] at h; exact absurd rfl h
      · exact ⟨inR_y hN hn h1, h2, h3⟩
theorem place_n {x y N : Int32} {n : Nat} (hN : N = nI n) (hn : n ≤ 1000) (h : (if (if x < 0 then (0 : Int32) else if N ≤ x then 0 else 1) = 0 then (0 : Int32) else if y < -1 then 0 else if 4 ≤ y then 0 else 1) = 0) : ¬ (inR x n ∧ ¬ y < -1 ∧ ¬ 4 ≤ y) := by
  rintro ⟨h1, h2, h3⟩
  by_cases h4 : (if x < 0 then (0 : Int32) else if N ≤ x then 0 else 1) = 0
  · exact inR_n hN hn h4 h1
  · rw [if_neg h4, if_neg h2, if_neg h3] at h
    exact i1_0 h
theorem five {y : Int32} (h2 : ¬ y < -1) (h3 : ¬ 4 ≤ y) : ∃ s, s < 5 ∧ y = nI s - 1 := by
  have a : -1 ≤ y.toInt := by
    have := Int32.not_lt.mp h2
    rw [Int32.le_iff_toInt_le] at this
    exact this
  have b : y.toInt < 4 := by
    have := Int32.not_le.mp h3
    rw [Int32.lt_iff_toInt_lt] at this
    exact this
  refine ⟨(y.toInt + 1).toNat, by omega, ?_⟩
  apply Int32.toInt_inj.mp
  rcases (show (y.toInt + 1).toNat = 0 ∨ (y.toInt + 1).toNat = 1 ∨ (y.toInt + 1).toNat = 2 ∨ (y.toInt + 1).toNat = 3 ∨ (y.toInt + 1).toNat = 4 by omega) with e | e | e | e | e <;> rw [e]
  · rw [show (nI 0 - 1).toInt = -1 by decide]; omega
  · rw [show (nI 1 - 1).toInt = 0 by decide]; omega
  · rw [show (nI 2 - 1).toInt = 1 by decide]; omega
  · rw [show (nI 3 - 1).toInt = 2 by decide]; omega
  · rw [show (nI 4 - 1).toInt = 3 by decide]; omega
/-- the place's number, as the class finds it -/
theorem place_q {j s : Nat} (hs : s < 5) : (if nI s - 1 < 0 then 5 * j else if nI s - 1 < 4 then 5 * j + 1 + (nI s - 1).toNatClampNeg else 5 * j) = 5 * j + s := by
  rcases (show s = 0 ∨ s = 1 ∨ s = 2 ∨ s = 3 ∨ s = 4 by omega) with rfl | rfl | rfl | rfl | rfl
  · rw [if_pos (by decide)]; rfl
  · rw [if_neg (by decide), if_pos (by decide), show (nI 1 - 1).toNatClampNeg = 0 by decide]
  · rw [if_neg (by decide), if_pos (by decide), show (nI 2 - 1).toNatClampNeg = 1 by decide]
  · rw [if_neg (by decide), if_pos (by decide), show (nI 3 - 1).toNatClampNeg = 2 by decide]
  · rw [if_neg (by decide), if_pos (by decide), show (nI 4 - 1).toNatClampNeg = 3 by decide]
theorem xWF.t {μ : Mem} (h : xWF μ) : μ 1 0 0 = nI (xnt μ) ∧ xnt μ ≤ 8 := ⟨h.1.2.1, h.1.1⟩
theorem isub1 (n : Nat) : nI n + 1 - 1 = nI n := by
  rw [nI_1]; exact nI_pred n

set_option maxRecDepth 100000 in
set_option maxHeartbeats 4000000 in
/-- X9 clear -/
theorem k_X9_clear (l : Launch) (G : XG) (hI : XI G)  (μ : Mem)  : XMet l G y_X9_clear c_X9_clear 1 none 1 [.inr (0, 0)] μ (fun r μ' => r = none ∧ μ' = mset (mset (mset (mset (mset (mset (mset (mset (mset μ 1 0 0 0) 4 0 0 0) 0 0 2 0) 0 0 4 0) 0 0 6 0) 0 0 7 0) 22 0 1 0) 22 0 2 0) 22 0 3 0) := by
  refine xj_met (by decide) hI (Nat.le_of_ble_eq_true rfl) ?_
  intro p e s m args below meth c E hr hlk
  have E : XE G (xA G) RX9 c_X9_clear 1 p s m args c := E
  refine xj_loc (L' := [some (.inr (0, 0))]) rfl ?_
  refine xj_aload_n E d_X9_clear_0 rfl ?_
  refine xj_geta E fl_X9_10 (by decide) rfl (by decide) rfl d_X9_clear_1 ?_
  refine xj_callV E (k_X0_forget l G hI _) cw_X9_61 cv_X0_forget (by decide) rfl rfl rfl ⟨by decide, by decide⟩ (Nat.le_of_ble_eq_true rfl) d_X9_clear_4 ⟨Nat.zero_le _, Nat.zero_le _⟩ (fun r4 μ4 ho4 hp4 => ?_)
  obtain ⟨rfl, rfl⟩ := hp4
  refine xj_aload_n E d_X9_clear_7 rfl ?_
  refine xj_iconst (v := 0) E d_X9_clear_8 (by decide) ?_
  refine xj_put E fp_X9_64 (by decide) rfl (by decide) rfl (narrow_i _) d_X9_clear_9 ?_
  refine xj_aload_n E d_X9_clear_12 rfl ?_
  refine xj_iconst (v := 0) E d_X9_clear_13 (by decide) ?_
  refine xj_put E fp_X9_68 (by decide) rfl (by decide) rfl (narrow_i _) d_X9_clear_14 ?_
  refine xj_aload_n E d_X9_clear_17 rfl ?_
  refine xj_iconst (v := 0) E d_X9_clear_18 (by decide) ?_
  refine xj_put E fp_X9_71 (by decide) rfl (by decide) rfl (narrow_i _) d_X9_clear_19 ?_
  refine xj_aload_n E d_X9_clear_22 rfl ?_
  refine xj_iconst (v := 0) E d_X9_clear_23 (by decide) ?_
  refine xj_put E fp_X9_74 (by decide) rfl (by decide) rfl (narrow_z (Or.inl rfl)) d_X9_clear_24 ?_
  refine xj_aload_n E d_X9_clear_27 rfl ?_
  refine xj_geta E fl_X9_57 (by decide) rfl (by decide) rfl d_X9_clear_28 ?_
  refine xj_callV E (k_X7_forget l G hI _) cw_X9_78 cv_X7_forget (by decide) rfl rfl rfl ⟨by decide, by decide⟩ (Nat.le_of_ble_eq_true rfl) d_X9_clear_31 ⟨Nat.zero_le _, Nat.zero_le _⟩ (fun r31 μ31 ho31 hp31 => ?_)
  obtain ⟨rfl, rfl⟩ := hp31
  exact xj_vret E hr hlk d_X9_clear_34 (⟨rfl, rfl⟩)

set_option maxRecDepth 100000 in
set_option maxHeartbeats 4000000 in
/-- X9 binding -/
theorem k_X9_binding (l : Launch) (G : XG) (hI : XI G) (z : Int32) (μ : Mem) (hw : xWF μ) (hz : z = 0 ∨ z = 1) : XMet l G y_X9_binding c_X9_binding 2 (some .int) 1 [.inr (0, 0), .inl z] μ (fun r μ' => (¬ μ 0 0 7 = 0 ∧ r = some (.inl (-2)) ∧ μ' = μ) ∨ (μ 0 0 7 = 0 ∧ xnt μ = 8 ∧ r = some (.inl (-5)) ∧ μ' = μ) ∨ (μ 0 0 7 = 0 ∧ xnt μ < 8 ∧ r = some (.inl (nI (xnt μ))) ∧ μ' = mset (mset μ 2 0 (xnt μ) z) 1 0 0 (nI (xnt μ + 1)))) := by
  refine xj_met (by decide) hI (Nat.le_of_ble_eq_true rfl) ?_
  intro p e s m args below meth c E hr hlk
  have E : XE G (xA G) RX9 c_X9_binding 2 p s m args c := E
  refine xj_loc (L' := [some (.inr (0, 0)), some (.inl z)]) rfl ?_
  have ht := hw.t
  refine xj_aload_n E d_X9_binding_0 rfl ?_
  refine xj_geti E fl_X9_74 (by decide) rfl (by decide) rfl d_X9_binding_1 ?_
  refine xj_if_eq (tgt := 10) E d_X9_binding_4 (by decide) (fun h4 => ?_) (fun h4 => ?_)
  · refine xj_aload_n E d_X9_binding_10 rfl ?_
    refine xj_geta E fl_X9_10 (by decide) rfl (by decide) rfl d_X9_binding_11 ?_
    refine xj_geti E fl_X9_79 (by decide) rfl (by decide) rfl d_X9_binding_14 ?_
    refine xj_bipush (v := 8) E d_X9_binding_17 (by decide) ?_
    refine xj_icmp_ne (tgt := 25) E d_X9_binding_19 (by decide) (fun h19 => ?_) (fun h19 => ?_)
    · have hne : ¬ xnt μ = 8 := fun q => h19 (by rw [ht.1, q]; rfl)
      have hlt : xnt μ < 8 := by omega
      refine xj_aload_n E d_X9_binding_25 rfl ?_
      refine xj_geta E fl_X9_10 (by decide) rfl (by decide) rfl d_X9_binding_26 ?_
      refine xj_iload_n E d_X9_binding_29 rfl ?_
      refine xj_callV E (k_X0_declare l G hI z _ hz (by rw [ht.1]; exact in_nI hlt (by omega))) cw_X9_82 cv_X0_declare (by decide) rfl rfl rfl ⟨by decide, by decide⟩ (Nat.le_of_ble_eq_true rfl) d_X9_binding_30 ⟨Nat.zero_le _, Nat.zero_le _⟩ (fun r30 μ30 ho30 hp30 => ?_)
      obtain ⟨rfl, hm30⟩ := hp30
      refine xj_mem hm30 ?_
      exact xj_iret E hr hlk d_X9_binding_33 (Or.inr (Or.inr ⟨h4, hlt, by rw [ht.1, isub1], by rw [ht.1, nI_1, cl_nI (by omega)]⟩))
    have he : xnt μ = 8 := (nI_eq (b := 8) (by omega) (by omega)).mp (by rw [← ht.1]; exact h19)
    refine xj_bipush (v := -5) E d_X9_binding_22 (by decide) ?_
    exact xj_iret E hr hlk d_X9_binding_24 (Or.inr (Or.inl ⟨h4, he, rfl, rfl⟩))
  refine xj_bipush (v := -2) E d_X9_binding_7 (by decide) ?_
  exact xj_iret E hr hlk d_X9_binding_9 (Or.inl ⟨h4, rfl, rfl⟩)

set_option maxRecDepth 100000 in
set_option maxHeartbeats 4000000 in
/-- X9 carry -/
theorem k_X9_carry (l : Launch) (G : XG) (hI : XI G) (a b v : Int32) (μ : Mem) (hw : xWF μ) : XMet l G y_X9_carry c_X9_carry 4 (some .int) 3 [.inr (0, 0), .inl a, .inl b, .inl v] μ (fun r μ' => (¬ μ 0 0 7 = 0 ∧ r = some (.inl (-2)) ∧ μ' = μ) ∨ (μ 0 0 7 = 0 ∧ ¬ (inR a (xnt μ) ∧ inR b (xnt μ)) ∧ r = some (.inl (-3)) ∧ μ' = μ) ∨ (μ 0 0 7 = 0 ∧ inR a (xnt μ) ∧ inR b (xnt μ) ∧ xnb μ 0 = 16 ∧ r = some (.inl (-5)) ∧ μ' = μ) ∨ (μ 0 0 7 = 0 ∧ inR a (xnt μ) ∧ inR b (xnt μ) ∧ xnb μ 0 < 16 ∧ r = some (.inl 0) ∧ μ' = mset (mset (mset (mset μ 3 0 (xnb μ 0) a) 5 0 (xnb μ 0) b) 6 0 (xnb μ 0) (if μ 2 0 b.toNatClampNeg = 0 then 0 else v)) 4 0 0 (nI (xnb μ 0 + 1)))) := by
  refine xj_met (by decide) hI (Nat.le_of_ble_eq_true rfl) ?_
  intro p e s m args below meth c E hr hlk
  have E : XE G (xA G) RX9 c_X9_carry 4 p s m args c := E
  refine xj_loc (L' := [some (.inr (0, 0)), some (.inl a), some (.inl b), some (.inl v)]) rfl ?_
  have ht := hw.t
  have hc := hw.1.2.2.1.cnt
  have hc16 : xnb μ 0 ≤ 16 := hc.2
  refine xj_aload_n E d_X9_carry_0 rfl ?_
  refine xj_geti E fl_X9_74 (by decide) rfl (by decide) rfl d_X9_carry_1 ?_
  refine xj_if_eq (tgt := 10) E d_X9_carry_4 (by decide) (fun h4 => ?_) (fun h4 => ?_)
  · refine xj_aload_n E d_X9_carry_10 rfl ?_
    refine xj_geta E fl_X9_10 (by decide) rfl (by decide) rfl d_X9_carry_11 ?_
    refine xj_iload_n E d_X9_carry_14 rfl ?_
    refine xj_callV E (k_X0_has l G hI a _) cw_X9_86 cv_X0_has (by decide) rfl rfl rfl ⟨by decide, by decide⟩ (Nat.le_of_ble_eq_true rfl) d_X9_carry_15 ⟨Nat.zero_le _, Nat.zero_le _⟩ (fun r15 μ15 ho15 hp15 => ?_)
    obtain ⟨rfl, hm15⟩ := hp15
    refine xj_mem hm15 ?_
    refine xj_if_eq (tgt := 32) E d_X9_carry_18 (by decide) (fun h18 => ?_) (fun h18 => ?_)
    · refine xj_bipush (v := -3) E d_X9_carry_32 (by decide) ?_
      exact xj_iret E hr hlk d_X9_carry_34 ((by first | exact Or.inr (Or.inl ⟨h4, fun q => inR_n ht.1 (by omega) h29 q.2, rfl, rfl⟩) | exact Or.inr (Or.inl ⟨h4, fun q => inR_n ht.1 (by omega) h18 q.1, rfl, rfl⟩)))
    refine xj_aload_n E d_X9_carry_21 rfl ?_
    refine xj_geta E fl_X9_10 (by decide) rfl (by decide) rfl d_X9_carry_22 ?_
    refine xj_iload_n E d_X9_carry_25 rfl ?_
    refine xj_callV E (k_X0_has l G hI b _) cw_X9_86 cv_X0_has (by decide) rfl rfl rfl ⟨by decide, by decide⟩ (Nat.le_of_ble_eq_true rfl) d_X9_carry_26 ⟨Nat.zero_le _, Nat.zero_le _⟩ (fun r26 μ26 ho26 hp26 => ?_)
    obtain ⟨rfl, hm26⟩ := hp26
    refine xj_mem hm26 ?_
    refine xj_if_ne (tgt := 35) E d_X9_carry_29 (by decide) (fun h29 => ?_) (fun h29 => ?_)
    · have ha : inR a (xnt μ) := inR_y ht.1 (by omega) h18
      have hb : inR b (xnt μ) := inR_y ht.1 (by omega) h29
      refine xj_aload_n E d_X9_carry_35 rfl ?_
      refine xj_geta E fl_X9_10 (by decide) rfl (by decide) rfl d_X9_carry_36 ?_
      refine xj_geta E fl_X9_90 (by decide) rfl (by decide) rfl d_X9_carry_39 ?_
      refine xj_callV E (k_X1_isFull l G hI 0 _) cw_X9_94 cv_X1_isFull (by decide) rfl rfl rfl ⟨by decide, by decide⟩ (Nat.le_of_ble_eq_true rfl) d_X9_carry_42 ⟨Nat.zero_le _, Nat.zero_le _⟩ (fun r42 μ42 ho42 hp42 => ?_)
      obtain ⟨rfl, hm42⟩ := hp42
      refine xj_mem hm42 ?_
      refine xj_if_eq (tgt := 51) E d_X9_carry_45 (by decide) (fun h45 => ?_) (fun h45 => ?_)
      · have hlt : xnb μ 0 < 16 := (nI_ltI (b := 16) (by omega) (by omega)).mp (by rw [← hc.1]; exact b01 h45)
        refine xj_aload_n E d_X9_carry_51 rfl ?_
        refine xj_geta E fl_X9_10 (by decide) rfl (by decide) rfl d_X9_carry_52 ?_
        refine xj_iload_n E d_X9_carry_55 rfl ?_
        refine xj_iload_n E d_X9_carry_56 rfl ?_
        refine xj_iload_n E d_X9_carry_57 rfl ?_
        refine xj_callV E (k_X0_addCarried l G hI a b v _ (hb.in ht.2 (by omega)) (by rw [hc.1]; exact in_nI hlt (by omega)) (by rw [hc.1]; exact nI_lt hlt (by omega))) cw_X9_100 cv_X0_addCarried (by decide) rfl rfl rfl ⟨by decide, by decide⟩ (Nat.le_of_ble_eq_true rfl) d_X9_carry_58 ⟨Nat.zero_le _, Nat.zero_le _⟩ (fun r58 μ58 ho58 hp58 => ?_)
        obtain ⟨rfl, hm58⟩ := hp58
        refine xj_mem hm58 ?_
        refine xj_iconst (v := 0) E d_X9_carry_61 (by decide) ?_
        exact xj_iret E hr hlk d_X9_carry_62 (Or.inr (Or.inr (Or.inr ⟨h4, ha, hb, hlt, rfl, by rw [hc.1, nI_1, cl_nI (by omega)]⟩)))
      have hge : ¬ xnb μ 0 < 16 := fun q => b01n h45 (by rw [hc.1]; exact nI_lt q (by decide))
      refine xj_bipush (v := -5) E d_X9_carry_48 (by decide) ?_
      exact xj_iret E hr hlk d_X9_carry_50 (Or.inr (Or.inr (Or.inl ⟨h4, ha, hb, by omega, rfl, rfl⟩)))
    refine xj_bipush (v := -3) E d_X9_carry_32 (by decide) ?_
    exact xj_iret E hr hlk d_X9_carry_34 ((by first | exact Or.inr (Or.inl ⟨h4, fun q => inR_n ht.1 (by omega) h29 q.2, rfl, rfl⟩) | exact Or.inr (Or.inl ⟨h4, fun q => inR_n ht.1 (by omega) h18 q.1, rfl, rfl⟩)))
  refine xj_bipush (v := -2) E d_X9_carry_7 (by decide) ?_
  exact xj_iret E hr hlk d_X9_carry_9 (Or.inl ⟨h4, rfl, rfl⟩)

set_option maxRecDepth 100000 in
set_option maxHeartbeats 4000000 in
/-- X9 interceptor -/
theorem k_X9_interceptor (l : Launch) (G : XG) (hI : XI G) (a b d : Int32) (μ : Mem) (hw : xWF μ) : XMet l G y_X9_interceptor c_X9_interceptor 4 (some .int) 1 [.inr (0, 0), .inl a, .inl b, .inl d] μ (fun r μ' => (¬ μ 0 0 7 = 0 ∧ r = some (.inl (-2)) ∧ μ' = μ) ∨ (μ 0 0 7 = 0 ∧ ¬ (inR a 10 ∧ inR b 16 ∧ inR d 6) ∧ r = some (.inl (-4)) ∧ μ' = μ) ∨ (μ 0 0 7 = 0 ∧ (inR a 10 ∧ inR b 16 ∧ inR d 6) ∧ xni μ = 8 ∧ r = some (.inl (-5)) ∧ μ' = μ) ∨ (μ 0 0 7 = 0 ∧ (inR a 10 ∧ inR b 16 ∧ inR d 6) ∧ xni μ < 8 ∧ r = some (.inl (nI (xni μ))) ∧ μ' = mset (mset (mset (mset (mset μ 8 (xni μ) 0 a) 8 (xni μ) 1 b) 8 (xni μ) 2 d) 4 (xni μ + 1) 0 0) 0 0 2 (nI (xni μ + 1)))) := by
  refine xj_met (by decide) hI (Nat.le_of_ble_eq_true rfl) ?_
  intro p e s m args below meth c E hr hlk
  have E : XE G (xA G) RX9 c_X9_interceptor 4 p s m args c := E
  refine xj_loc (L' := [some (.inr (0, 0)), some (.inl a), some (.inl b), some (.inl d)]) rfl ?_
  have ht := hw.2.1
  refine xj_aload_n E d_X9_interceptor_0 rfl ?_
  refine xj_geti E fl_X9_74 (by decide) rfl (by decide) rfl d_X9_interceptor_1 ?_
  refine xj_if_eq (tgt := 10) E d_X9_interceptor_4 (by decide) (fun h4 => ?_) (fun h4 => ?_)
  · refine xj_iload_n E d_X9_interceptor_10 rfl ?_
    refine xj_bipush (v := 9) E d_X9_interceptor_11 (by decide) ?_
    refine xj_callS E (k_X9_isWithin l G hI a 9 _) cw_X9_104 cs_X9_isWithin rfl rfl ⟨by decide, by decide⟩ (Nat.le_of_ble_eq_true rfl) d_X9_interceptor_13 ⟨Nat.zero_le _, Nat.zero_le _⟩ (fun r13 μ13 ho13 hp13 => ?_)
    obtain ⟨rfl, hm13⟩ := hp13
    refine xj_mem hm13 ?_
    refine xj_if_eq (tgt := 36) E d_X9_interceptor_16 (by decide) (fun h16 => ?_) (fun h16 => ?_)
    · refine xj_bipush (v := -4) E d_X9_interceptor_36 (by decide) ?_
      exact xj_iret E hr hlk d_X9_interceptor_38 ((by first | exact Or.inr (Or.inl ⟨h4, fun q => inW_n 5 rfl (by omega) h33 q.2.2, rfl, rfl⟩) | exact Or.inr (Or.inl ⟨h4, fun q => inW_n 15 rfl (by omega) h25 q.2.1, rfl, rfl⟩) | exact Or.inr (Or.inl ⟨h4, fun q => inW_n 9 rfl (by omega) h16 q.1, rfl, rfl⟩)))
    refine xj_iload_n E d_X9_interceptor_19 rfl ?_
    refine xj_bipush (v := 15) E d_X9_interceptor_20 (by decide) ?_
    refine xj_callS E (k_X9_isWithin l G hI b 15 _) cw_X9_104 cs_X9_isWithin rfl rfl ⟨by decide, by decide⟩ (Nat.le_of_ble_eq_true rfl) d_X9_interceptor_22 ⟨Nat.zero_le _, Nat.zero_le _⟩ (fun r22 μ22 ho22 hp22 => ?_)
    obtain ⟨rfl, hm22⟩ := hp22
    refine xj_mem hm22 ?_
    refine xj_if_eq (tgt := 36) E d_X9_interceptor_25 (by decide) (fun h25 => ?_) (fun h25 => ?_)
    · refine xj_bipush (v := -4) E d_X9_interceptor_36 (by decide) ?_
      exact xj_iret E hr hlk d_X9_interceptor_38 ((by first | exact Or.inr (Or.inl ⟨h4, fun q => inW_n 5 rfl (by omega) h33 q.2.2, rfl, rfl⟩) | exact Or.inr (Or.inl ⟨h4, fun q => inW_n 15 rfl (by omega) h25 q.2.1, rfl, rfl⟩) | exact Or.inr (Or.inl ⟨h4, fun q => inW_n 9 rfl (by omega) h16 q.1, rfl, rfl⟩)))
    refine xj_iload_n E d_X9_interceptor_28 rfl ?_
    refine xj_iconst (v := 5) E d_X9_interceptor_29 (by decide) ?_
    refine xj_callS E (k_X9_isWithin l G hI d 5 _) cw_X9_104 cs_X9_isWithin rfl rfl ⟨by decide, by decide⟩ (Nat.le_of_ble_eq_true rfl) d_X9_interceptor_30 ⟨Nat.zero_le _, Nat.zero_le _⟩ (fun r30 μ30 ho30 hp30 => ?_)
    obtain ⟨rfl, hm30⟩ := hp30
    refine xj_mem hm30 ?_
    refine xj_if_ne (tgt := 39) E d_X9_interceptor_33 (by decide) (fun h33 => ?_) (fun h33 => ?_)
    · have hg : (inR a 10 ∧ inR b 16 ∧ inR d 6) := ⟨inW_y 9 rfl (by omega) h16, inW_y 15 rfl (by omega) h25, inW_y 5 rfl (by omega) h33⟩
      refine xj_aload_n E d_X9_interceptor_39 rfl ?_
      refine xj_geti E fl_X9_64 (by decide) rfl (by decide) rfl d_X9_interceptor_40 ?_
      refine xj_bipush (v := 8) E d_X9_interceptor_43 (by decide) ?_
      refine xj_icmp_ne (tgt := 51) E d_X9_interceptor_45 (by decide) (fun h45 => ?_) (fun h45 => ?_)
      · have hne : ¬ xni μ = 8 := fun q => h45 (by rw [ht.1, q]; rfl)
        have hlt : xni μ < 8 := by omega
        refine xj_aload_n E d_X9_interceptor_51 rfl ?_
        refine xj_geta E fl_X9_18 (by decide) rfl (by decide) rfl d_X9_interceptor_52 ?_
        refine xj_aload_n E d_X9_interceptor_55 rfl ?_
        refine xj_geti E fl_X9_64 (by decide) rfl (by decide) rfl d_X9_interceptor_56 ?_
        refine xj_aald E (by decide) rfl (show vp_in (μ 0 0 2) 8 by rw [ht.1]; exact in_nI hlt (by omega)) d_X9_interceptor_59 ?_
        refine xj_st (st' := [.inr (8, xni μ)]) (by rw [ht.1, cl_nI (by omega)]; try rfl) ?_
        refine xj_iload_n E d_X9_interceptor_60 rfl ?_
        refine xj_iload_n E d_X9_interceptor_61 rfl ?_
        refine xj_iload_n E d_X9_interceptor_62 rfl ?_
        refine xj_callV E (k_X6_declare l G hI (xni μ) a b d _) cw_X9_108 cv_X6_declare (by decide) rfl rfl rfl ⟨by decide, by decide⟩ (Nat.le_of_ble_eq_true rfl) d_X9_interceptor_63 ⟨Nat.zero_le _, Nat.zero_le _⟩ (fun r63 μ63 ho63 hp63 => ?_)
        obtain ⟨rfl, hm63⟩ := hp63
        refine xj_mem hm63 ?_
        refine xj_aload_n E d_X9_interceptor_66 rfl ?_
        refine xj_dup E d_X9_interceptor_67 ?_
        refine xj_geti E fl_X9_64 (by decide) rfl (by decide) rfl d_X9_interceptor_68 ?_
        refine xj_iconst (v := 1) E d_X9_interceptor_71 (by decide) ?_
        refine xj_iadd E d_X9_interceptor_72 ?_
        refine xj_put E fp_X9_64 (by decide) rfl (by decide) rfl (narrow_i _) d_X9_interceptor_73 ?_
        refine xj_aload_n E d_X9_interceptor_76 rfl ?_
        refine xj_geti E fl_X9_64 (by decide) rfl (by decide) rfl d_X9_interceptor_77 ?_
        refine xj_iconst (v := 1) E d_X9_interceptor_80 (by decide) ?_
        refine xj_isub E d_X9_interceptor_81 ?_
        exact xj_iret E hr hlk d_X9_interceptor_82 (Or.inr (Or.inr (Or.inr ⟨h4, hg, hlt, congrArg (fun z => some (Sum.inl z)) (by show μ 0 0 2 + 1 - 1 = _; rw [ht.1, isub1]), by show mset _ 0 0 2 (μ 0 0 2 + 1) = _; rw [ht.1, nI_1]⟩)))
      have he : xni μ = 8 := (nI_eq (b := 8) (by omega) (by omega)).mp (by rw [← ht.1]; exact h45)
      refine xj_bipush (v := -5) E d_X9_interceptor_48 (by decide) ?_
      exact xj_iret E hr hlk d_X9_interceptor_50 (Or.inr (Or.inr (Or.inl ⟨h4, hg, he, rfl, rfl⟩)))
    refine xj_bipush (v := -4) E d_X9_interceptor_36 (by decide) ?_
    exact xj_iret E hr hlk d_X9_interceptor_38 ((by first | exact Or.inr (Or.inl ⟨h4, fun q => inW_n 5 rfl (by omega) h33 q.2.2, rfl, rfl⟩) | exact Or.inr (Or.inl ⟨h4, fun q => inW_n 15 rfl (by omega) h25 q.2.1, rfl, rfl⟩) | exact Or.inr (Or.inl ⟨h4, fun q => inW_n 9 rfl (by omega) h16 q.1, rfl, rfl⟩)))
  refine xj_bipush (v := -2) E d_X9_interceptor_7 (by decide) ?_
  exact xj_iret E hr hlk d_X9_interceptor_9 (Or.inl ⟨h4, rfl, rfl⟩)

set_option maxRecDepth 100000 in
set_option maxHeartbeats 4000000 in
/-- X9 decorator -/
theorem k_X9_decorator (l : Launch) (G : XG) (hI : XI G) (a b d f : Int32) (μ : Mem) (hw : xWF μ) : XMet l G y_X9_decorator c_X9_decorator 5 (some .int) 1 [.inr (0, 0), .inl a, .inl b, .inl d, .inl f] μ (fun r μ' => (¬ μ 0 0 7 = 0 ∧ r = some (.inl (-2)) ∧ μ' = μ) ∨ (μ 0 0 7 = 0 ∧ ¬ (inR a 10 ∧ inR b 8 ∧ inR d 16 ∧ inR f 6) ∧ r = some (.inl (-4)) ∧ μ' = μ) ∨ (μ 0 0 7 = 0 ∧ (inR a 10 ∧ inR b 8 ∧ inR d 16 ∧ inR f 6) ∧ xnd μ = 4 ∧ r = some (.inl (-5)) ∧ μ' = μ) ∨ (μ 0 0 7 = 0 ∧ (inR a 10 ∧ inR b 8 ∧ inR d 16 ∧ inR f 6) ∧ xnd μ < 4 ∧ r = some (.inl (nI (xnd μ))) ∧ μ' = mset (mset (mset (mset (mset μ 10 (xnd μ) 0 a) 10 (xnd μ) 1 b) 10 (xnd μ) 2 d) 10 (xnd μ) 3 f) 0 0 4 (nI (xnd μ + 1)))) := by
  refine xj_met (by decide) hI (Nat.le_of_ble_eq_true rfl) ?_
  intro p e s m args below meth c E hr hlk
  have E : XE G (xA G) RX9 c_X9_decorator 5 p s m args c := E
  refine xj_loc (L' := [some (.inr (0, 0)), some (.inl a), some (.inl b), some (.inl d), some (.inl f)]) rfl ?_
  have ht := hw.2.2.1
  refine xj_aload_n E d_X9_decorator_0 rfl ?_
  refine xj_geti E fl_X9_74 (by decide) rfl (by decide) rfl d_X9_decorator_1 ?_
  refine xj_if_eq (tgt := 10) E d_X9_decorator_4 (by decide) (fun h4 => ?_) (fun h4 => ?_)
  · refine xj_iload_n E d_X9_decorator_10 rfl ?_
    refine xj_bipush (v := 9) E d_X9_decorator_11 (by decide) ?_
    refine xj_callS E (k_X9_isWithin l G hI a 9 _) cw_X9_104 cs_X9_isWithin rfl rfl ⟨by decide, by decide⟩ (Nat.le_of_ble_eq_true rfl) d_X9_decorator_13 ⟨Nat.zero_le _, Nat.zero_le _⟩ (fun r13 μ13 ho13 hp13 => ?_)
    obtain ⟨rfl, hm13⟩ := hp13
    refine xj_mem hm13 ?_
    refine xj_if_eq (tgt := 46) E d_X9_decorator_16 (by decide) (fun h16 => ?_) (fun h16 => ?_)
    · refine xj_bipush (v := -4) E d_X9_decorator_46 (by decide) ?_
      exact xj_iret E hr hlk d_X9_decorator_48 ((by first | exact Or.inr (Or.inl ⟨h4, fun q => inW_n 5 rfl (by omega) h43 q.2.2.2, rfl, rfl⟩) | exact Or.inr (Or.inl ⟨h4, fun q => inW_n 15 rfl (by omega) h34 q.2.2.1, rfl, rfl⟩) | exact Or.inr (Or.inl ⟨h4, fun q => inW_n 7 rfl (by omega) h25 q.2.1, rfl, rfl⟩) | exact Or.inr (Or.inl ⟨h4, fun q => inW_n 9 rfl (by omega) h16 q.1, rfl, rfl⟩)))
    refine xj_iload_n E d_X9_decorator_19 rfl ?_
    refine xj_bipush (v := 7) E d_X9_decorator_20 (by decide) ?_
    refine xj_callS E (k_X9_isWithin l G hI b 7 _) cw_X9_104 cs_X9_isWithin rfl rfl ⟨by decide, by decide⟩ (Nat.le_of_ble_eq_true rfl) d_X9_decorator_22 ⟨Nat.zero_le _, Nat.zero_le _⟩ (fun r22 μ22 ho22 hp22 => ?_)
    obtain ⟨rfl, hm22⟩ := hp22
    refine xj_mem hm22 ?_
    refine xj_if_eq (tgt := 46) E d_X9_decorator_25 (by decide) (fun h25 => ?_) (fun h25 => ?_)
    · refine xj_bipush (v := -4) E d_X9_decorator_46 (by decide) ?_
      exact xj_iret E hr hlk d_X9_decorator_48 ((by first | exact Or.inr (Or.inl ⟨h4, fun q => inW_n 5 rfl (by omega) h43 q.2.2.2, rfl, rfl⟩) | exact Or.inr (Or.inl ⟨h4, fun q => inW_n 15 rfl (by omega) h34 q.2.2.1, rfl, rfl⟩) | exact Or.inr (Or.inl ⟨h4, fun q => inW_n 7 rfl (by omega) h25 q.2.1, rfl, rfl⟩) | exact Or.inr (Or.inl ⟨h4, fun q => inW_n 9 rfl (by omega) h16 q.1, rfl, rfl⟩)))
    refine xj_iload_n E d_X9_decorator_28 rfl ?_
    refine xj_bipush (v := 15) E d_X9_decorator_29 (by decide) ?_
    refine xj_callS E (k_X9_isWithin l G hI d 15 _) cw_X9_104 cs_X9_isWithin rfl rfl ⟨by decide, by decide⟩ (Nat.le_of_ble_eq_true rfl) d_X9_decorator_31 ⟨Nat.zero_le _, Nat.zero_le _⟩ (fun r31 μ31 ho31 hp31 => ?_)
    obtain ⟨rfl, hm31⟩ := hp31
    refine xj_mem hm31 ?_
    refine xj_if_eq (tgt := 46) E d_X9_decorator_34 (by decide) (fun h34 => ?_) (fun h34 => ?_)
    · refine xj_bipush (v := -4) E d_X9_decorator_46 (by decide) ?_
      exact xj_iret E hr hlk d_X9_decorator_48 ((by first | exact Or.inr (Or.inl ⟨h4, fun q => inW_n 5 rfl (by omega) h43 q.2.2.2, rfl, rfl⟩) | exact Or.inr (Or.inl ⟨h4, fun q => inW_n 15 rfl (by omega) h34 q.2.2.1, rfl, rfl⟩) | exact Or.inr (Or.inl ⟨h4, fun q => inW_n 7 rfl (by omega) h25 q.2.1, rfl, rfl⟩) | exact Or.inr (Or.inl ⟨h4, fun q => inW_n 9 rfl (by omega) h16 q.1, rfl, rfl⟩)))
    refine xj_iload E d_X9_decorator_37 rfl ?_
    refine xj_iconst (v := 5) E d_X9_decorator_39 (by decide) ?_
    refine xj_callS E (k_X9_isWithin l G hI f 5 _) cw_X9_104 cs_X9_isWithin rfl rfl ⟨by decide, by decide⟩ (Nat.le_of_ble_eq_true rfl) d_X9_decorator_40 ⟨Nat.zero_le _, Nat.zero_le _⟩ (fun r40 μ40 ho40 hp40 => ?_)
    obtain ⟨rfl, hm40⟩ := hp40
    refine xj_mem hm40 ?_
    refine xj_if_ne (tgt := 49) E d_X9_decorator_43 (by decide) (fun h43 => ?_) (fun h43 => ?_)
    · have hg : (inR a 10 ∧ inR b 8 ∧ inR d 16 ∧ inR f 6) := ⟨inW_y 9 rfl (by omega) h16, inW_y 7 rfl (by omega) h25, inW_y 15 rfl (by omega) h34, inW_y 5 rfl (by omega) h43⟩
      refine xj_aload_n E d_X9_decorator_49 rfl ?_
      refine xj_geti E fl_X9_68 (by decide) rfl (by decide) rfl d_X9_decorator_50 ?_
      refine xj_iconst (v := 4) E d_X9_decorator_53 (by decide) ?_
      refine xj_icmp_ne (tgt := 60) E d_X9_decorator_54 (by decide) (fun h54 => ?_) (fun h54 => ?_)
      · have hne : ¬ xnd μ = 4 := fun q => h54 (by rw [ht.1, q]; rfl)
        have hlt : xnd μ < 4 := by omega
        refine xj_aload_n E d_X9_decorator_60 rfl ?_
        refine xj_geta E fl_X9_25 (by decide) rfl (by decide) rfl d_X9_decorator_61 ?_
        refine xj_aload_n E d_X9_decorator_64 rfl ?_
        refine xj_geti E fl_X9_68 (by decide) rfl (by decide) rfl d_X9_decorator_65 ?_
        refine xj_aald E (by decide) rfl (show vp_in (μ 0 0 4) 4 by rw [ht.1]; exact in_nI hlt (by omega)) d_X9_decorator_68 ?_
        refine xj_st (st' := [.inr (10, xnd μ)]) (by rw [ht.1, cl_nI (by omega)]; try rfl) ?_
        refine xj_iload_n E d_X9_decorator_69 rfl ?_
        refine xj_iload_n E d_X9_decorator_70 rfl ?_
        refine xj_iload_n E d_X9_decorator_71 rfl ?_
        refine xj_iload E d_X9_decorator_72 rfl ?_
        refine xj_callV E (k_X5_declare l G hI (xnd μ) a b d f _) cw_X9_110 cv_X5_declare (by decide) rfl rfl rfl ⟨by decide, by decide⟩ (Nat.le_of_ble_eq_true rfl) d_X9_decorator_74 ⟨Nat.zero_le _, Nat.zero_le _⟩ (fun r74 μ74 ho74 hp74 => ?_)
        obtain ⟨rfl, hm74⟩ := hp74
        refine xj_mem hm74 ?_
        refine xj_aload_n E d_X9_decorator_77 rfl ?_
        refine xj_dup E d_X9_decorator_78 ?_
        refine xj_geti E fl_X9_68 (by decide) rfl (by decide) rfl d_X9_decorator_79 ?_
        refine xj_iconst (v := 1) E d_X9_decorator_82 (by decide) ?_
        refine xj_iadd E d_X9_decorator_83 ?_
        refine xj_put E fp_X9_68 (by decide) rfl (by decide) rfl (narrow_i _) d_X9_decorator_84 ?_
        refine xj_aload_n E d_X9_decorator_87 rfl ?_
        refine xj_geti E fl_X9_68 (by decide) rfl (by decide) rfl d_X9_decorator_88 ?_
        refine xj_iconst (v := 1) E d_X9_decorator_91 (by decide) ?_
        refine xj_isub E d_X9_decorator_92 ?_
        exact xj_iret E hr hlk d_X9_decorator_93 (Or.inr (Or.inr (Or.inr ⟨h4, hg, hlt, congrArg (fun z => some (Sum.inl z)) (by show μ 0 0 4 + 1 - 1 = _; rw [ht.1, isub1]), by show mset _ 0 0 4 (μ 0 0 4 + 1) = _; rw [ht.1, nI_1]⟩)))
      have he : xnd μ = 4 := (nI_eq (b := 4) (by omega) (by omega)).mp (by rw [← ht.1]; exact h54)
      refine xj_bipush (v := -5) E d_X9_decorator_57 (by decide) ?_
      exact xj_iret E hr hlk d_X9_decorator_59 (Or.inr (Or.inr (Or.inl ⟨h4, hg, he, rfl, rfl⟩)))
    refine xj_bipush (v := -4) E d_X9_decorator_46 (by decide) ?_
    exact xj_iret E hr hlk d_X9_decorator_48 ((by first | exact Or.inr (Or.inl ⟨h4, fun q => inW_n 5 rfl (by omega) h43 q.2.2.2, rfl, rfl⟩) | exact Or.inr (Or.inl ⟨h4, fun q => inW_n 15 rfl (by omega) h34 q.2.2.1, rfl, rfl⟩) | exact Or.inr (Or.inl ⟨h4, fun q => inW_n 7 rfl (by omega) h25 q.2.1, rfl, rfl⟩) | exact Or.inr (Or.inl ⟨h4, fun q => inW_n 9 rfl (by omega) h16 q.1, rfl, rfl⟩)))
  refine xj_bipush (v := -2) E d_X9_decorator_7 (by decide) ?_
  exact xj_iret E hr hlk d_X9_decorator_9 (Or.inl ⟨h4, rfl, rfl⟩)

theorem pDecl_o (μ : Mem) (j : Nat) (t : Int32) : ∀ n f, f ≠ 4 → f ≠ 12 → f ≠ 13 → pDecl μ j t n f = μ f
  | 0, f, h1, h2, h3 => by unfold pDecl pForget; rw [mset_f h3, mset_f h3, mset_f h1, mset_f h2]
  | n + 1, f, h1, h2, h3 => by unfold pDecl pForget; rw [mset_f h3, mset_f h3, mset_f h1]; exact pDecl_o μ j t n f h1 h2 h3

set_option maxRecDepth 100000 in
set_option maxHeartbeats 4000000 in
/-- X9 component -/
theorem k_X9_component (l : Launch) (G : XG) (hI : XI G) (a : Int32) (μ : Mem) (hw : xWF μ) : XMet l G y_X9_component c_X9_component 2 (some .int) 2 [.inr (0, 0), .inl a] μ (fun r μ' => (¬ μ 0 0 7 = 0 ∧ r = some (.inl (-2)) ∧ μ' = μ) ∨ (μ 0 0 7 = 0 ∧ ¬ inR a 256 ∧ r = some (.inl (-4)) ∧ μ' = μ) ∨ (μ 0 0 7 = 0 ∧ inR a 256 ∧ xnp μ = 4 ∧ r = some (.inl (-5)) ∧ μ' = μ) ∨ (μ 0 0 7 = 0 ∧ inR a 256 ∧ xnp μ < 4 ∧ r = some (.inl (nI (xnp μ))) ∧ μ' = mset (pDecl μ (xnp μ) a 4) 0 0 6 (nI (xnp μ + 1)))) := by
  refine xj_met (by decide) hI (Nat.le_of_ble_eq_true rfl) ?_
  intro p e s m args below meth c E hr hlk
  have E : XE G (xA G) RX9 c_X9_component 2 p s m args c := E
  refine xj_loc (L' := [some (.inr (0, 0)), some (.inl a)]) rfl ?_
  have ht := hw.2.2.2.1
  refine xj_aload_n E d_X9_component_0 rfl ?_
  refine xj_geti E fl_X9_74 (by decide) rfl (by decide) rfl d_X9_component_1 ?_
  refine xj_if_eq (tgt := 10) E d_X9_component_4 (by decide) (fun h4 => ?_) (fun h4 => ?_)
  · refine xj_iload_n E d_X9_component_10 rfl ?_
    refine xj_sipush (v := 255) E d_X9_component_11 (by decide) ?_
    refine xj_callS E (k_X9_isWithin l G hI a 255 _) cw_X9_104 cs_X9_isWithin rfl rfl ⟨by decide, by decide⟩ (Nat.le_of_ble_eq_true rfl) d_X9_component_14 ⟨Nat.zero_le _, Nat.zero_le _⟩ (fun r14 μ14 ho14 hp14 => ?_)
    obtain ⟨rfl, hm14⟩ := hp14
    refine xj_mem hm14 ?_
    refine xj_if_ne (tgt := 23) E d_X9_component_17 (by decide) (fun h17 => ?_) (fun h17 => ?_)
    · have hg : inR a 256 := inW_y 255 rfl (by omega) h17
      refine xj_aload_n E d_X9_component_23 rfl ?_
      refine xj_geti E fl_X9_71 (by decide) rfl (by decide) rfl d_X9_component_24 ?_
      refine xj_iconst (v := 4) E d_X9_component_27 (by decide) ?_
      refine xj_icmp_ne (tgt := 34) E d_X9_component_28 (by decide) (fun h28 => ?_) (fun h28 => ?_)
      · have hne : ¬ xnp μ = 4 := fun q => h28 (by rw [ht.1, q]; rfl)
        have hlt : xnp μ < 4 := by omega
        refine xj_aload_n E d_X9_component_34 rfl ?_
        refine xj_geta E fl_X9_32 (by decide) rfl (by decide) rfl d_X9_component_35 ?_
        refine xj_aload_n E d_X9_component_38 rfl ?_
        refine xj_geti E fl_X9_71 (by decide) rfl (by decide) rfl d_X9_component_39 ?_
        refine xj_aald E (by decide) rfl (show vp_in (μ 0 0 6) 4 by rw [ht.1]; exact in_nI hlt (by omega)) d_X9_component_42 ?_
        refine xj_st (st' := [.inr (12, xnp μ)]) (by rw [ht.1, cl_nI (by omega)]; try rfl) ?_
        refine xj_iload_n E d_X9_component_43 rfl ?_
        refine xj_callV E (k_X4_declare l G hI (xnp μ) a _) cw_X9_113 cv_X4_declare (by decide) rfl rfl rfl ⟨by decide, by decide⟩ (Nat.le_of_ble_eq_true rfl) d_X9_component_44 ⟨Nat.zero_le _, Nat.zero_le _⟩ (fun r44 μ44 ho44 hp44 => ?_)
        obtain ⟨rfl, hm44⟩ := hp44
        refine xj_mem hm44 ?_
        refine xj_aload_n E d_X9_component_47 rfl ?_
        refine xj_dup E d_X9_component_48 ?_
        refine xj_geti E fl_X9_71 (by decide) rfl (by decide) rfl d_X9_component_49 ?_
        refine xj_iconst (v := 1) E d_X9_component_52 (by decide) ?_
        refine xj_iadd E d_X9_component_53 ?_
        refine xj_put E fp_X9_71 (by decide) rfl (by decide) rfl (narrow_i _) d_X9_component_54 ?_
        refine xj_aload_n E d_X9_component_57 rfl ?_
        refine xj_geti E fl_X9_71 (by decide) rfl (by decide) rfl d_X9_component_58 ?_
        refine xj_iconst (v := 1) E d_X9_component_61 (by decide) ?_
        refine xj_isub E d_X9_component_62 ?_
        exact xj_iret E hr hlk d_X9_component_63 (Or.inr (Or.inr (Or.inr ⟨h4, hg, hlt, congrArg (fun z => some (Sum.inl z)) (by rw [mset_at, pDecl_o _ _ _ _ 0 (by decide) (by decide) (by decide), ht.1, isub1]), by rw [pDecl_o _ _ _ _ 0 (by decide) (by decide) (by decide), ht.1, nI_1]⟩)))
      have he : xnp μ = 4 := (nI_eq (b := 4) (by omega) (by omega)).mp (by rw [← ht.1]; exact h28)
      refine xj_bipush (v := -5) E d_X9_component_31 (by decide) ?_
      exact xj_iret E hr hlk d_X9_component_33 (Or.inr (Or.inr (Or.inl ⟨h4, hg, he, rfl, rfl⟩)))
    refine xj_bipush (v := -4) E d_X9_component_20 (by decide) ?_
    exact xj_iret E hr hlk d_X9_component_22 (Or.inr (Or.inl ⟨h4, inW_n 255 rfl (by omega) h17, rfl, rfl⟩))
  refine xj_bipush (v := -2) E d_X9_component_7 (by decide) ?_
  exact xj_iret E hr hlk d_X9_component_9 (Or.inl ⟨h4, rfl, rfl⟩)
end
section
/-- one more binding in a row -/
def addB (μ : Mem) (b : Nat) (t v : Int32) : Mem := mset (mset (mset μ 5 b (xnb μ b) t) 6 b (xnb μ b) (if μ 2 0 t.toNatClampNeg = 0 then 0 else v)) 4 b 0 (nI (xnb μ b + 1))
/-- what addBinding says, by the row's count -/
theorem addB_case {μ μ' : Mem} {b nt : Nat} {t v : Int32} {r : Option XV} (hR : xRow μ b nt) (hb : 0 < b) (h : (μ 4 b 0 < nI (xln 5 b) → r = some (.inl 0) ∧ μ' = mset (mset (mset μ 5 b (μ 4 b 0).toNatClampNeg t) 6 b (μ 4 b 0).toNatClampNeg (if μ 2 0 t.toNatClampNeg = 0 then 0 else v)) 4 b 0 (μ 4 b 0 + 1)) ∧ (¬ μ 4 b 0 < nI (xln 5 b) → r = some (.inl (-5)) ∧ μ' = μ)) : (xnb μ b = 4 ∧ r = some (.inl (-5)) ∧ μ' = μ) ∨ (xnb μ b < 4 ∧ r = some (.inl 0) ∧ μ' = addB μ b t v) := by
  have hc := hR.cnt
  have h4 : xln 5 b = 4 := by show (if b = 0 then 16 else 4) = 4; rw [if_neg (by omega)]
  rw [h4] at h hc
  rw [hc.1, cl_nI (by omega), nI_1] at h
  by_cases q : xnb μ b < 4
  · exact Or.inr ⟨q, h.1 (nI_lt q (by omega))⟩
  · exact Or.inl ⟨by omega, h.2 (fun z => q ((nI_ltI (by omega) (by omega)).mp z))⟩
theorem xRow.ge {μ : Mem} {b nt : Nat} (h : xRow μ b nt) : ¬ μ 4 b 0 < 0 := by
  have hc := h.cnt
  have := xln5 b
  rw [hc.1]
  exact nI_pos (by omega)

set_option maxRecDepth 100000 in
set_option maxHeartbeats 4000000 in
/-- X9 bindInterceptor -/
theorem k_X9_bindInterceptor (l : Launch) (G : XG) (hI : XI G) (a b v : Int32) (μ : Mem) (hw : xWF μ) : XMet l G y_X9_bindInterceptor c_X9_bindInterceptor 4 (some .int) 3 [.inr (0, 0), .inl a, .inl b, .inl v] μ (fun r μ' => (¬ μ 0 0 7 = 0 ∧ r = some (.inl (-2)) ∧ μ' = μ) ∨ (μ 0 0 7 = 0 ∧ ¬ (inR a (xni μ) ∧ inR b (xnt μ)) ∧ r = some (.inl (-3)) ∧ μ' = μ) ∨ (μ 0 0 7 = 0 ∧ ∃ i, i < xni μ ∧ a = nI i ∧ inR b (xnt μ) ∧ ((xnb μ (i + 1) = 4 ∧ r = some (.inl (-5)) ∧ μ' = μ) ∨ (xnb μ (i + 1) < 4 ∧ r = some (.inl 0) ∧ μ' = addB μ (i + 1) b v)))) := by
  refine xj_met (by decide) hI (Nat.le_of_ble_eq_true rfl) ?_
  intro p e s m args below meth c E hr hlk
  have E : XE G (xA G) RX9 c_X9_bindInterceptor 4 p s m args c := E
  refine xj_loc (L' := [some (.inr (0, 0)), some (.inl a), some (.inl b), some (.inl v)]) rfl ?_
  have ht := hw.t
  have hi0 := hw.2.1
  refine xj_aload_n E d_X9_bindInterceptor_0 rfl ?_
  refine xj_geti E fl_X9_74 (by decide) rfl (by decide) rfl d_X9_bindInterceptor_1 ?_
  refine xj_if_eq (tgt := 10) E d_X9_bindInterceptor_4 (by decide) (fun h4 => ?_) (fun h4 => ?_)
  · refine xj_aload_n E d_X9_bindInterceptor_10 rfl ?_
    refine xj_iload_n E d_X9_bindInterceptor_11 rfl ?_
    refine xj_callV E (k_X9_isInterceptor l G hI a _) cw_X9_116 cv_X9_isInterceptor (by decide) rfl rfl rfl ⟨by decide, by decide⟩ (Nat.le_of_ble_eq_true rfl) d_X9_bindInterceptor_12 ⟨Nat.zero_le _, Nat.zero_le _⟩ (fun r12 μ12 ho12 hp12 => ?_)
    obtain ⟨rfl, hm12⟩ := hp12
    refine xj_mem hm12 ?_
    refine xj_if_eq (tgt := 29) E d_X9_bindInterceptor_15 (by decide) (fun h15 => ?_) (fun h15 => ?_)
    · refine xj_bipush (v := -3) E d_X9_bindInterceptor_29 (by decide) ?_
      exact xj_iret E hr hlk d_X9_bindInterceptor_31 ((by first | exact Or.inr (Or.inl ⟨h4, fun q => inR_n ht.1 (by omega) h26 q.2, rfl, rfl⟩) | exact Or.inr (Or.inl ⟨h4, fun q => inR_n hi0.1 (by omega) h15 q.1, rfl, rfl⟩)))
    refine xj_aload_n E d_X9_bindInterceptor_18 rfl ?_
    refine xj_geta E fl_X9_10 (by decide) rfl (by decide) rfl d_X9_bindInterceptor_19 ?_
    refine xj_iload_n E d_X9_bindInterceptor_22 rfl ?_
    refine xj_callV E (k_X0_has l G hI b _) cw_X9_86 cv_X0_has (by decide) rfl rfl rfl ⟨by decide, by decide⟩ (Nat.le_of_ble_eq_true rfl) d_X9_bindInterceptor_23 ⟨Nat.zero_le _, Nat.zero_le _⟩ (fun r23 μ23 ho23 hp23 => ?_)
    obtain ⟨rfl, hm23⟩ := hp23
    refine xj_mem hm23 ?_
    refine xj_if_ne (tgt := 32) E d_X9_bindInterceptor_26 (by decide) (fun h26 => ?_) (fun h26 => ?_)
    · have hb : inR b (xnt μ) := inR_y ht.1 (by omega) h26
      obtain ⟨i, hi, rfl⟩ := inR_y hi0.1 (by omega) h15
      refine xj_aload_n E d_X9_bindInterceptor_32 rfl ?_
      refine xj_aload_n E d_X9_bindInterceptor_33 rfl ?_
      refine xj_geta E fl_X9_18 (by decide) rfl (by decide) rfl d_X9_bindInterceptor_34 ?_
      refine xj_iload_n E d_X9_bindInterceptor_37 rfl ?_
      refine xj_aald E (by decide) rfl (show vp_in (nI i) 8 from in_nI (by omega) (by omega)) d_X9_bindInterceptor_38 ?_
      refine xj_st (st' := [.inr (8, i), .inr (0, 0)]) (by rw [cl_nI (by omega)]; try rfl) ?_
      refine xj_geta E fl_X9_119 (by decide) rfl (by decide) rfl d_X9_bindInterceptor_39 ?_
      refine xj_iload_n E d_X9_bindInterceptor_42 rfl ?_
      refine xj_iload_n E d_X9_bindInterceptor_43 rfl ?_
      refine xj_callV E (k_X9_addBinding l G hI (i + 1) b v _ (hw.2.2.2.2.1 i hi).ge (hb.in ht.2 (by omega))) cw_X9_122 cv_X9_addBinding (by decide) rfl rfl rfl ⟨by decide, by decide⟩ (Nat.le_of_ble_eq_true rfl) d_X9_bindInterceptor_44 ⟨Nat.zero_le _, Nat.zero_le _⟩ (fun r44 μ44 ho44 hp44 => ?_)
      have hp44 := addB_case (hw.2.2.2.2.1 i hi) (by omega) hp44
      obtain ⟨x, rfl⟩ : ∃ x, r44 = some (.inl x) := by
        rcases hp44 with h | h
        · exact ⟨_, h.2.1⟩
        · exact ⟨_, h.2.1⟩
      refine xj_st (st' := [.inl x]) rfl ?_
      exact xj_iret E hr hlk d_X9_bindInterceptor_47 (Or.inr (Or.inr ⟨h4, i, hi, rfl, hb, hp44⟩))
    refine xj_bipush (v := -3) E d_X9_bindInterceptor_29 (by decide) ?_
    exact xj_iret E hr hlk d_X9_bindInterceptor_31 ((by first | exact Or.inr (Or.inl ⟨h4, fun q => inR_n ht.1 (by omega) h26 q.2, rfl, rfl⟩) | exact Or.inr (Or.inl ⟨h4, fun q => inR_n hi0.1 (by omega) h15 q.1, rfl, rfl⟩)))
  refine xj_bipush (v := -2) E d_X9_bindInterceptor_7 (by decide) ?_
  exact xj_iret E hr hlk d_X9_bindInterceptor_9 (Or.inl ⟨h4, rfl, rfl⟩)

set_option maxRecDepth 100000 in
set_option maxHeartbeats 4000000 in
/-- X9 bind -/
theorem k_X9_bind (l : Launch) (G : XG) (hI : XI G) (a y b v : Int32) (μ : Mem) (hw : xWF μ) : XMet l G y_X9_bind c_X9_bind 5 (some .int) 3 [.inr (0, 0), .inl a, .inl y, .inl b, .inl v] μ (fun r μ' => (¬ μ 0 0 7 = 0 ∧ r = some (.inl (-2)) ∧ μ' = μ) ∨ (μ 0 0 7 = 0 ∧ ¬ ((inR a (xnp μ) ∧ ¬ y < -1 ∧ ¬ 4 ≤ y) ∧ inR b (xnt μ)) ∧ r = some (.inl (-3)) ∧ μ' = μ) ∨ (μ 0 0 7 = 0 ∧ ∃ j k, j < xnp μ ∧ k < 5 ∧ a = nI j ∧ y = nI k - 1 ∧ inR b (xnt μ) ∧ ((xnb μ (5 * j + k + 9) = 4 ∧ r = some (.inl (-5)) ∧ μ' = μ) ∨ (xnb μ (5 * j + k + 9) < 4 ∧ r = some (.inl 0) ∧ μ' = addB μ (5 * j + k + 9) b v)))) := by
  refine xj_met (by decide) hI (Nat.le_of_ble_eq_true rfl) ?_
  intro p e s m args below meth c E hr hlk
  have E : XE G (xA G) RX9 c_X9_bind 5 p s m args c := E
  refine xj_loc (L' := [some (.inr (0, 0)), some (.inl a), some (.inl y), some (.inl b), some (.inl v)]) rfl ?_
  have ht := hw.t
  have hp0 := hw.2.2.2.1
  refine xj_aload_n E d_X9_bind_0 rfl ?_
  refine xj_geti E fl_X9_74 (by decide) rfl (by decide) rfl d_X9_bind_1 ?_
  refine xj_if_eq (tgt := 10) E d_X9_bind_4 (by decide) (fun h4 => ?_) (fun h4 => ?_)
  · refine xj_aload_n E d_X9_bind_10 rfl ?_
    refine xj_iload_n E d_X9_bind_11 rfl ?_
    refine xj_iload_n E d_X9_bind_12 rfl ?_
    refine xj_callV E (k_X9_isPlace l G hI a y _) cw_X9_126 cv_X9_isPlace (by decide) rfl rfl rfl ⟨by decide, by decide⟩ (Nat.le_of_ble_eq_true rfl) d_X9_bind_13 ⟨Nat.zero_le _, Nat.zero_le _⟩ (fun r13 μ13 ho13 hp13 => ?_)
    obtain ⟨rfl, hm13⟩ := hp13
    refine xj_mem hm13 ?_
    refine xj_if_eq (tgt := 30) E d_X9_bind_16 (by decide) (fun h16 => ?_) (fun h16 => ?_)
    · refine xj_bipush (v := -3) E d_X9_bind_30 (by decide) ?_
      exact xj_iret E hr hlk d_X9_bind_32 ((by first | exact Or.inr (Or.inl ⟨h4, fun q => inR_n ht.1 (by omega) h27 q.2, rfl, rfl⟩) | exact Or.inr (Or.inl ⟨h4, fun q => place_n hp0.1 (by omega) h16 q.1, rfl, rfl⟩)))
    refine xj_aload_n E d_X9_bind_19 rfl ?_
    refine xj_geta E fl_X9_10 (by decide) rfl (by decide) rfl d_X9_bind_20 ?_
    refine xj_iload_n E d_X9_bind_23 rfl ?_
    refine xj_callV E (k_X0_has l G hI b _) cw_X9_86 cv_X0_has (by decide) rfl rfl rfl ⟨by decide, by decide⟩ (Nat.le_of_ble_eq_true rfl) d_X9_bind_24 ⟨Nat.zero_le _, Nat.zero_le _⟩ (fun r24 μ24 ho24 hp24 => ?_)
    obtain ⟨rfl, hm24⟩ := hp24
    refine xj_mem hm24 ?_
    refine xj_if_ne (tgt := 33) E d_X9_bind_27 (by decide) (fun h27 => ?_) (fun h27 => ?_)
    · have hb : inR b (xnt μ) := inR_y ht.1 (by omega) h27
      obtain ⟨⟨j, hj, rfl⟩, hy1, hy2⟩ := place_y hp0.1 (by omega) h16
      obtain ⟨k, hk, rfl⟩ := five hy1 hy2
      refine xj_aload_n E d_X9_bind_33 rfl ?_
      refine xj_aload_n E d_X9_bind_34 rfl ?_
      refine xj_geta E fl_X9_32 (by decide) rfl (by decide) rfl d_X9_bind_35 ?_
      refine xj_iload_n E d_X9_bind_38 rfl ?_
      refine xj_aald E (by decide) rfl (show vp_in (nI j) 4 from in_nI (by omega) (by omega)) d_X9_bind_39 ?_
      refine xj_st (st' := [.inr (12, j), .inr (0, 0)]) (by rw [cl_nI (by omega)]; try rfl) ?_
      refine xj_iload_n E d_X9_bind_40 rfl ?_
      refine xj_callV E (k_X4_place l G hI j (nI k - 1) _) cw_X9_129 cv_X4_place (by decide) rfl rfl rfl ⟨by decide, by decide⟩ (Nat.le_of_ble_eq_true rfl) d_X9_bind_41 ⟨Nat.zero_le _, Nat.zero_le _⟩ (fun r41 μ41 ho41 hp41 => ?_)
      obtain ⟨rfl, hm41⟩ := hp41
      refine xj_mem hm41 ?_
      refine xj_st (st' := [.inr (13, 5 * j + k), .inr (0, 0)]) (by rw [place_q hk]; try rfl) ?_
      refine xj_geta E fl_X9_133 (by decide) rfl (by decide) rfl d_X9_bind_44 ?_
      refine xj_iload_n E d_X9_bind_47 rfl ?_
      refine xj_iload E d_X9_bind_48 rfl ?_
      refine xj_callV E (k_X9_addBinding l G hI (5 * j + k + 9) b v _ (hw.2.2.2.2.2 (5 * j + k) (by omega)).1.ge (hb.in ht.2 (by omega))) cw_X9_122 cv_X9_addBinding (by decide) rfl rfl rfl ⟨by decide, by decide⟩ (Nat.le_of_ble_eq_true rfl) d_X9_bind_50 ⟨Nat.zero_le _, Nat.zero_le _⟩ (fun r50 μ50 ho50 hp50 => ?_)
      have hp50 := addB_case (hw.2.2.2.2.2 (5 * j + k) (by omega)).1 (by omega) hp50
      obtain ⟨x, rfl⟩ : ∃ x, r50 = some (.inl x) := by
        rcases hp50 with h | h
        · exact ⟨_, h.2.1⟩
        · exact ⟨_, h.2.1⟩
      refine xj_st (st' := [.inl x]) rfl ?_
      exact xj_iret E hr hlk d_X9_bind_53 (Or.inr (Or.inr ⟨h4, j, k, hj, hk, rfl, rfl, hb, hp50⟩))
    refine xj_bipush (v := -3) E d_X9_bind_30 (by decide) ?_
    exact xj_iret E hr hlk d_X9_bind_32 ((by first | exact Or.inr (Or.inl ⟨h4, fun q => inR_n ht.1 (by omega) h27 q.2, rfl, rfl⟩) | exact Or.inr (Or.inl ⟨h4, fun q => place_n hp0.1 (by omega) h16 q.1, rfl, rfl⟩)))
  refine xj_bipush (v := -2) E d_X9_bind_7 (by decide) ?_
  exact xj_iret E hr hlk d_X9_bind_9 (Or.inl ⟨h4, rfl, rfl⟩)

set_option maxRecDepth 100000 in
set_option maxHeartbeats 4000000 in
/-- X9 list -/
theorem k_X9_list (l : Launch) (G : XG) (hI : XI G) (a y b : Int32) (μ : Mem) (hw : xWF μ) : XMet l G y_X9_list c_X9_list 5 (some .int) 2 [.inr (0, 0), .inl a, .inl y, .inl b] μ (fun r μ' => (¬ μ 0 0 7 = 0 ∧ r = some (.inl (-2)) ∧ μ' = μ) ∨ (μ 0 0 7 = 0 ∧ ¬ ((inR a (xnp μ) ∧ ¬ y < -1 ∧ ¬ 4 ≤ y) ∧ inR b (xni μ)) ∧ r = some (.inl (-3)) ∧ μ' = μ) ∨ (μ 0 0 7 = 0 ∧ ∃ j k, j < xnp μ ∧ k < 5 ∧ a = nI j ∧ y = nI k - 1 ∧ inR b (xni μ) ∧ ((xnl μ (5 * j + k) = 4 ∧ r = some (.inl (-5)) ∧ μ' = μ) ∨ (xnl μ (5 * j + k) < 4 ∧ r = some (.inl 0) ∧ μ' = mset (mset μ 14 (5 * j + k) (xnl μ (5 * j + k)) b) 13 (5 * j + k) 2 (nI (xnl μ (5 * j + k) + 1)))))) := by
  refine xj_met (by decide) hI (Nat.le_of_ble_eq_true rfl) ?_
  intro p e s m args below meth c E hr hlk
  have E : XE G (xA G) RX9 c_X9_list 5 p s m args c := E
  refine xj_loc (L' := [some (.inr (0, 0)), some (.inl a), some (.inl y), some (.inl b), none]) rfl ?_
  have hi0 := hw.2.1
  have hp0 := hw.2.2.2.1
  refine xj_aload_n E d_X9_list_0 rfl ?_
  refine xj_geti E fl_X9_74 (by decide) rfl (by decide) rfl d_X9_list_1 ?_
  refine xj_if_eq (tgt := 10) E d_X9_list_4 (by decide) (fun h4 => ?_) (fun h4 => ?_)
  · refine xj_aload_n E d_X9_list_10 rfl ?_
    refine xj_iload_n E d_X9_list_11 rfl ?_
    refine xj_iload_n E d_X9_list_12 rfl ?_
    refine xj_callV E (k_X9_isPlace l G hI a y _) cw_X9_126 cv_X9_isPlace (by decide) rfl rfl rfl ⟨by decide, by decide⟩ (Nat.le_of_ble_eq_true rfl) d_X9_list_13 ⟨Nat.zero_le _, Nat.zero_le _⟩ (fun r13 μ13 ho13 hp13 => ?_)
    obtain ⟨rfl, hm13⟩ := hp13
    refine xj_mem hm13 ?_
    refine xj_if_eq (tgt := 27) E d_X9_list_16 (by decide) (fun h16 => ?_) (fun h16 => ?_)
    · refine xj_bipush (v := -3) E d_X9_list_27 (by decide) ?_
      exact xj_iret E hr hlk d_X9_list_29 ((by first | exact Or.inr (Or.inl ⟨h4, fun q => inR_n hi0.1 (by omega) h24 q.2, rfl, rfl⟩) | exact Or.inr (Or.inl ⟨h4, fun q => place_n hp0.1 (by omega) h16 q.1, rfl, rfl⟩)))
    refine xj_aload_n E d_X9_list_19 rfl ?_
    refine xj_iload_n E d_X9_list_20 rfl ?_
    refine xj_callV E (k_X9_isInterceptor l G hI b _) cw_X9_116 cv_X9_isInterceptor (by decide) rfl rfl rfl ⟨by decide, by decide⟩ (Nat.le_of_ble_eq_true rfl) d_X9_list_21 ⟨Nat.zero_le _, Nat.zero_le _⟩ (fun r21 μ21 ho21 hp21 => ?_)
    obtain ⟨rfl, hm21⟩ := hp21
    refine xj_mem hm21 ?_
    refine xj_if_ne (tgt := 30) E d_X9_list_24 (by decide) (fun h24 => ?_) (fun h24 => ?_)
    · have hb : inR b (xni μ) := inR_y hi0.1 (by omega) h24
      obtain ⟨⟨j, hj, rfl⟩, hy1, hy2⟩ := place_y hp0.1 (by omega) h16
      obtain ⟨k, hk, rfl⟩ := five hy1 hy2
      have hq := (hw.2.2.2.2.2 (5 * j + k) (by omega)).2.1
      refine xj_aload_n E d_X9_list_30 rfl ?_
      refine xj_geta E fl_X9_32 (by decide) rfl (by decide) rfl d_X9_list_31 ?_
      refine xj_iload_n E d_X9_list_34 rfl ?_
      refine xj_aald E (by decide) rfl (show vp_in (nI j) 4 from in_nI (by omega) (by omega)) d_X9_list_35 ?_
      refine xj_st (st' := [.inr (12, j)]) (by rw [cl_nI (by omega)]; try rfl) ?_
      refine xj_iload_n E d_X9_list_36 rfl ?_
      refine xj_callV E (k_X4_place l G hI j (nI k - 1) _) cw_X9_129 cv_X4_place (by decide) rfl rfl rfl ⟨by decide, by decide⟩ (Nat.le_of_ble_eq_true rfl) d_X9_list_37 ⟨Nat.zero_le _, Nat.zero_le _⟩ (fun r37 μ37 ho37 hp37 => ?_)
      obtain ⟨rfl, hm37⟩ := hp37
      refine xj_mem hm37 ?_
      refine xj_st (st' := [.inr (13, 5 * j + k)]) (by rw [place_q hk]; try rfl) ?_
      refine xj_astore E d_X9_list_40 (by decide) rfl ?_
      refine xj_aload E d_X9_list_42 rfl ?_
      refine xj_geti E fl_X9_136 (by decide) rfl (by decide) rfl d_X9_list_44 ?_
      refine xj_iconst (v := 4) E d_X9_list_47 (by decide) ?_
      refine xj_icmp_ne (tgt := 54) E d_X9_list_48 (by decide) (fun h48 => ?_) (fun h48 => ?_)
      · have hne : ¬ xnl μ (5 * j + k) = 4 := fun q => h48 (by rw [hq.1, q]; rfl)
        have hlt : xnl μ (5 * j + k) < 4 := by omega
        refine xj_aload E d_X9_list_54 rfl ?_
        refine xj_iload_n E d_X9_list_56 rfl ?_
        refine xj_callV E (k_X8_addListed l G hI (5 * j + k) b _ (by rw [hq.1]; exact in_nI hlt (by omega))) cw_X9_139 cv_X8_addListed (by decide) rfl rfl rfl ⟨by decide, by decide⟩ (Nat.le_of_ble_eq_true rfl) d_X9_list_57 ⟨Nat.zero_le _, Nat.zero_le _⟩ (fun r57 μ57 ho57 hp57 => ?_)
        obtain ⟨rfl, hm57⟩ := hp57
        refine xj_mem hm57 ?_
        refine xj_iconst (v := 0) E d_X9_list_60 (by decide) ?_
        exact xj_iret E hr hlk d_X9_list_61 (Or.inr (Or.inr ⟨h4, j, k, hj, hk, rfl, rfl, hb, Or.inr ⟨hlt, rfl, by rw [hq.1, nI_1, cl_nI (by omega)]⟩⟩))
      have he : xnl μ (5 * j + k) = 4 := (nI_eq (b := 4) (by omega) (by omega)).mp (by rw [← hq.1]; exact h48)
      refine xj_bipush (v := -5) E d_X9_list_51 (by decide) ?_
      exact xj_iret E hr hlk d_X9_list_53 (Or.inr (Or.inr ⟨h4, j, k, hj, hk, rfl, rfl, hb, Or.inl ⟨he, rfl, rfl⟩⟩))
    refine xj_bipush (v := -3) E d_X9_list_27 (by decide) ?_
    exact xj_iret E hr hlk d_X9_list_29 ((by first | exact Or.inr (Or.inl ⟨h4, fun q => inR_n hi0.1 (by omega) h24 q.2, rfl, rfl⟩) | exact Or.inr (Or.inl ⟨h4, fun q => place_n hp0.1 (by omega) h16 q.1, rfl, rfl⟩)))
  refine xj_bipush (v := -2) E d_X9_list_7 (by decide) ?_
  exact xj_iret E hr hlk d_X9_list_9 (Or.inl ⟨h4, rfl, rfl⟩)

theorem m1_0 : nI 0 - 1 = (-1 : Int32) := by decide
theorem nI_s1 {k : Nat} (h : 0 < k) : nI k - 1 = nI (k - 1) := by
  obtain ⟨n, rfl⟩ : ∃ n, k = n + 1 := ⟨k - 1, by omega⟩
  exact nI_pred n
theorem fl_no {x y N : Int32} {n : Nat} (h : y = -1 ∨ ¬ (inR x n ∧ ¬ y < -1 ∧ ¬ 4 ≤ y)) : ¬ (inR x n ∧ inR y 4) := by
  rintro ⟨h1, ⟨t, ht, rfl⟩⟩
  rcases h with h | h
  · have := nI_pos (n := t) (by omega)
    rw [h] at this
    exact this (by decide)
  · apply h
    refine ⟨h1, fun q => ?_, fun q => ?_⟩
    · have a := nI_pos' (n := t) (by omega)
      rw [Int32.le_iff_toInt_le] at a
      rw [Int32.lt_iff_toInt_lt] at q
      rw [show (-1 : Int32).toInt = -1 by decide] at q
      rw [show (0 : Int32).toInt = 0 by decide] at a
      omega
    · exact nI_ge (a := t) (b := 4) (by omega) (by omega) q

set_option maxRecDepth 100000 in
set_option maxHeartbeats 4000000 in
/-- X9 flags -/
theorem k_X9_flags (l : Launch) (G : XG) (hI : XI G) (a y b : Int32) (μ : Mem) (hw : xWF μ) : XMet l G y_X9_flags c_X9_flags 4 (some .int) 2 [.inr (0, 0), .inl a, .inl y, .inl b] μ (fun r μ' => (¬ μ 0 0 7 = 0 ∧ r = some (.inl (-2)) ∧ μ' = μ) ∨ (μ 0 0 7 = 0 ∧ ¬ (inR a (xnp μ) ∧ inR y 4) ∧ r = some (.inl (-3)) ∧ μ' = μ) ∨ (μ 0 0 7 = 0 ∧ (inR a (xnp μ) ∧ inR y 4) ∧ ¬ inR b 8 ∧ r = some (.inl (-4)) ∧ μ' = μ) ∨ (μ 0 0 7 = 0 ∧ ∃ j k, j < xnp μ ∧ k < 4 ∧ a = nI j ∧ y = nI k ∧ inR b 8 ∧ r = some (.inl 0) ∧ μ' = mset μ 13 (5 * j + 1 + k) 3 b)) := by
  refine xj_met (by decide) hI (Nat.le_of_ble_eq_true rfl) ?_
  intro p e s m args below meth c E hr hlk
  have E : XE G (xA G) RX9 c_X9_flags 4 p s m args c := E
  refine xj_loc (L' := [some (.inr (0, 0)), some (.inl a), some (.inl y), some (.inl b)]) rfl ?_
  have hp0 := hw.2.2.2.1
  refine xj_aload_n E d_X9_flags_0 rfl ?_
  refine xj_geti E fl_X9_74 (by decide) rfl (by decide) rfl d_X9_flags_1 ?_
  refine xj_if_eq (tgt := 10) E d_X9_flags_4 (by decide) (fun h4 => ?_) (fun h4 => ?_)
  · refine xj_aload_n E d_X9_flags_10 rfl ?_
    refine xj_iload_n E d_X9_flags_11 rfl ?_
    refine xj_iload_n E d_X9_flags_12 rfl ?_
    refine xj_callV E (k_X9_isPlace l G hI a y _) cw_X9_126 cv_X9_isPlace (by decide) rfl rfl rfl ⟨by decide, by decide⟩ (Nat.le_of_ble_eq_true rfl) d_X9_flags_13 ⟨Nat.zero_le _, Nat.zero_le _⟩ (fun r13 μ13 ho13 hp13 => ?_)
    obtain ⟨rfl, hm13⟩ := hp13
    refine xj_mem hm13 ?_
    refine xj_if_eq (tgt := 24) E d_X9_flags_16 (by decide) (fun h16 => ?_) (fun h16 => ?_)
    · refine xj_bipush (v := -3) E d_X9_flags_24 (by decide) ?_
      exact xj_iret E hr hlk d_X9_flags_26 ((by first | exact Or.inr (Or.inl ⟨h4, fl_no (N := 0) (Or.inl h21), rfl, rfl⟩) | exact Or.inr (Or.inl ⟨h4, fl_no (N := 0) (Or.inr (place_n hp0.1 (by omega) h16)), rfl, rfl⟩)))
    refine xj_iload_n E d_X9_flags_19 rfl ?_
    refine xj_iconst (v := -1) E d_X9_flags_20 (by decide) ?_
    refine xj_icmp_ne (tgt := 27) E d_X9_flags_21 (by decide) (fun h21 => ?_) (fun h21 => ?_)
    · obtain ⟨⟨j, hj, rfl⟩, hy1, hy2⟩ := place_y hp0.1 (by omega) h16
      obtain ⟨k, hk, rfl⟩ := five hy1 hy2
      have hk0 : 0 < k := by
        apply Classical.byContradiction
        intro q
        have q0 : k = 0 := by omega
        subst q0
        exact h21 m1_0
      refine xj_iload_n E d_X9_flags_27 rfl ?_
      refine xj_bipush (v := 7) E d_X9_flags_28 (by decide) ?_
      refine xj_callS E (k_X9_isWithin l G hI b 7 _) cw_X9_104 cs_X9_isWithin rfl rfl ⟨by decide, by decide⟩ (Nat.le_of_ble_eq_true rfl) d_X9_flags_30 ⟨Nat.zero_le _, Nat.zero_le _⟩ (fun r30 μ30 ho30 hp30 => ?_)
      obtain ⟨rfl, hm30⟩ := hp30
      refine xj_mem hm30 ?_
      refine xj_if_ne (tgt := 39) E d_X9_flags_33 (by decide) (fun h33 => ?_) (fun h33 => ?_)
      · refine xj_aload_n E d_X9_flags_39 rfl ?_
        refine xj_geta E fl_X9_32 (by decide) rfl (by decide) rfl d_X9_flags_40 ?_
        refine xj_iload_n E d_X9_flags_43 rfl ?_
        refine xj_aald E (by decide) rfl (show vp_in (nI j) 4 from in_nI (by omega) (by omega)) d_X9_flags_44 ?_
        refine xj_st (st' := [.inr (12, j)]) (by rw [cl_nI (by omega)]; try rfl) ?_
        refine xj_iload_n E d_X9_flags_45 rfl ?_
        refine xj_callV E (k_X4_place l G hI j (nI k - 1) _) cw_X9_129 cv_X4_place (by decide) rfl rfl rfl ⟨by decide, by decide⟩ (Nat.le_of_ble_eq_true rfl) d_X9_flags_46 ⟨Nat.zero_le _, Nat.zero_le _⟩ (fun r46 μ46 ho46 hp46 => ?_)
        obtain ⟨rfl, hm46⟩ := hp46
        refine xj_mem hm46 ?_
        refine xj_st (st' := [.inr (13, 5 * j + k)]) (by rw [place_q hk]; try rfl) ?_
        refine xj_iload_n E d_X9_flags_49 rfl ?_
        refine xj_put E fp_X9_142 (by decide) rfl (by decide) rfl (narrow_i _) d_X9_flags_50 ?_
        refine xj_iconst (v := 0) E d_X9_flags_53 (by decide) ?_
        exact xj_iret E hr hlk d_X9_flags_54 (Or.inr (Or.inr (Or.inr ⟨h4, j, k - 1, hj, by omega, rfl, nI_s1 hk0, inW_y 7 rfl (by omega) h33, rfl, by rw [show 5 * j + 1 + (k - 1) = 5 * j + k by omega]⟩)))
      refine xj_bipush (v := -4) E d_X9_flags_36 (by decide) ?_
      exact xj_iret E hr hlk d_X9_flags_38 (Or.inr (Or.inr (Or.inl ⟨h4, ⟨⟨j, hj, rfl⟩, ⟨k - 1, by omega, nI_s1 hk0⟩⟩, inW_n 7 rfl (by omega) h33, rfl, rfl⟩)))
    refine xj_bipush (v := -3) E d_X9_flags_24 (by decide) ?_
    exact xj_iret E hr hlk d_X9_flags_26 ((by first | exact Or.inr (Or.inl ⟨h4, fl_no (N := 0) (Or.inl h21), rfl, rfl⟩) | exact Or.inr (Or.inl ⟨h4, fl_no (N := 0) (Or.inr (place_n hp0.1 (by omega) h16)), rfl, rfl⟩)))
  refine xj_bipush (v := -2) E d_X9_flags_7 (by decide) ?_
  exact xj_iret E hr hlk d_X9_flags_9 (Or.inl ⟨h4, rfl, rfl⟩)

/-- what deploy finds -/
def xDep (μ : Mem) (x : Int32) : Prop := ∃ x1, firstN (fun i => xConf μ (i + 1)) (xni μ) (fun i => nI (100 + i)) x1 ∧ ((¬ x1 = 0 ∧ x = x1) ∨ (x1 = 0 ∧ ∃ x2, firstN (fun q => xConf μ (q + 9)) (5 * xnp μ) (fun q => nI (200 + 8 * (q / 5) + q % 5)) x2 ∧ ((¬ x2 = 0 ∧ x = x2) ∨ (x2 = 0 ∧ firstN (fun k => ¬ μ 13 (5 * (k / 4) + 1 + k % 4) 3 &&& 1 = 0 ∧ 1 < (xChn μ (k / 4) (k % 4)).length) (4 * xnp μ) (fun k => nI (300 + k)) x))))
theorem xNC_of {μ : Mem} (hw : xWF μ) {x1 x2 : Int32} (h1 : firstN (fun i => xConf μ (i + 1)) (xni μ) (fun i => nI (100 + i)) x1) (h2 : firstN (fun q => xConf μ (q + 9)) (5 * xnp μ) (fun q => nI (200 + 8 * (q / 5) + q % 5)) x2) (e1 : x1 = 0) (e2 : x2 = 0) : xNC μ := by
  have a := hw.2.1.2
  have b := hw.2.2.2.1.2
  exact ⟨h1.none (fun k hk => nI_nz (by omega) (by omega)) e1, h2.none (fun k hk => nI_nz (by omega) (by omega)) e2⟩
theorem xDep_nc {μ : Mem} (hw : xWF μ) (h : xDep μ 0) : xNC μ := by
  obtain ⟨x1, h1, h⟩ := h
  rcases h with ⟨n, e⟩ | ⟨e1, x2, h2, h⟩
  · exact absurd e.symm n
  · rcases h with ⟨n, e⟩ | ⟨e2, -⟩
    · exact absurd e.symm n
    · exact xNC_of hw h1 h2 e1 e2

set_option maxRecDepth 100000 in
set_option maxHeartbeats 4000000 in
/-- X9 deploy -/
theorem k_X9_deploy (l : Launch) (G : XG) (hI : XI G)  (μ : Mem) (hw : xWF μ) : XMet l G y_X9_deploy c_X9_deploy 2 (some .int) 6 [.inr (0, 0)] μ (fun r μ' => (¬ μ 0 0 7 = 0 ∧ r = some (.inl (-2)) ∧ μ' = μ) ∨ (μ 0 0 7 = 0 ∧ ∃ x μ1, r = some (.inl x) ∧ frS μ μ1 ∧ xDep μ x ∧ μ' = mset μ1 0 0 7 (if x = 0 then 1 else 0))) := by
  refine xj_met (by decide) hI (Nat.le_of_ble_eq_true rfl) ?_
  intro p e s m args below meth c E hr hlk
  have E : XE G (xA G) RX9 c_X9_deploy 2 p s m args c := E
  refine xj_loc (L' := [some (.inr (0, 0)), none]) rfl ?_
  have hfin : μ 0 0 7 = 0 → ∀ (x : Int32) (μ1 : Mem), frS μ μ1 → xDep μ x → XJ G (xA G) 2 p l e (xr 6) s m args below meth c 0 0 (MQ below (xQ G (fun r μ' => (¬ μ 0 0 7 = 0 ∧ r = some (.inl (-2)) ∧ μ' = μ) ∨ (μ 0 0 7 = 0 ∧ ∃ x μ1, r = some (.inl x) ∧ frS μ μ1 ∧ xDep μ x ∧ μ' = mset μ1 0 0 7 (if x = 0 then 1 else 0)))) args s 0 0 (xA G)) 33 [some (.inr (0, 0)), some (.inl x)] [] μ1 := by
    intro h4 x μ1 hfr hd
    refine xj_aload_n E d_X9_deploy_33 rfl ?_
    refine xj_iload_n E d_X9_deploy_34 rfl ?_
    refine xj_if_ne (tgt := 42) E d_X9_deploy_35 (by decide) (fun h35 => ?_) (fun h35 => ?_)
    · refine xj_iconst (v := 0) E d_X9_deploy_42 (by decide) ?_
      refine xj_put E fp_X9_74 (by decide) rfl (by decide) rfl (narrow_z (by first | exact Or.inr rfl | exact Or.inl rfl)) d_X9_deploy_43 ?_
      refine xj_iload_n E d_X9_deploy_46 rfl ?_
      exact xj_iret E hr hlk d_X9_deploy_47 ((by first | exact Or.inr ⟨h4, x, μ1, rfl, hfr, hd, by rw [if_pos h35]⟩ | exact Or.inr ⟨h4, x, μ1, rfl, hfr, hd, by rw [if_neg h35]⟩))
    refine xj_iconst (v := 1) E d_X9_deploy_38 (by decide) ?_
    refine xj_goto (tgt := 43) E d_X9_deploy_39 (by decide) ?_
    refine xj_put E fp_X9_74 (by decide) rfl (by decide) rfl (narrow_z (by first | exact Or.inr rfl | exact Or.inl rfl)) d_X9_deploy_43 ?_
    refine xj_iload_n E d_X9_deploy_46 rfl ?_
    exact xj_iret E hr hlk d_X9_deploy_47 ((by first | exact Or.inr ⟨h4, x, μ1, rfl, hfr, hd, by rw [if_pos h35]⟩ | exact Or.inr ⟨h4, x, μ1, rfl, hfr, hd, by rw [if_neg h35]⟩))
  refine xj_aload_n E d_X9_deploy_0 rfl ?_
  refine xj_geti E fl_X9_74 (by decide) rfl (by decide) rfl d_X9_deploy_1 ?_
  refine xj_if_eq (tgt := 10) E d_X9_deploy_4 (by decide) (fun h4 => ?_) (fun h4 => ?_)
  · refine xj_aload_n E d_X9_deploy_10 rfl ?_
    refine xj_callV E (k_X9_findConflictOfInterceptor l G hI _ hw) cw_X9_145 cv_X9_findConflictOfInterceptor (by decide) rfl rfl rfl ⟨by decide, by decide⟩ (Nat.le_of_ble_eq_true rfl) d_X9_deploy_11 ⟨Nat.zero_le _, Nat.zero_le _⟩ (fun r11 μ11 ho11 hp11 => ?_)
    obtain ⟨x1, rfl, hx1, fr1⟩ := hp11
    refine xj_st (st' := [.inl x1]) rfl ?_
    refine xj_istore_n E d_X9_deploy_14 (by decide) rfl ?_
    refine xj_iload_n E d_X9_deploy_15 rfl ?_
    refine xj_if_ne (tgt := 24) E d_X9_deploy_16 (by decide) (fun h16 => ?_) (fun h16 => ?_)
    · refine xj_iload_n E d_X9_deploy_24 rfl ?_
      refine xj_if_ne (tgt := 33) E d_X9_deploy_25 (by decide) (fun h25 => ?_) (fun h25 => absurd h25 h16)
      exact hfin h4 x1 _ fr1 ⟨x1, hx1, Or.inl ⟨h16, rfl⟩⟩
    refine xj_aload_n E d_X9_deploy_19 rfl ?_
    refine xj_callV E (k_X9_findConflictOfComponent l G hI _ (fr1.wf hw)) cw_X9_149 cv_X9_findConflictOfComponent (by decide) rfl rfl rfl ⟨by decide, by decide⟩ (Nat.le_of_ble_eq_true rfl) d_X9_deploy_20 ⟨Nat.zero_le _, Nat.zero_le _⟩ (fun r20 μ20 ho20 hp20 => ?_)
    obtain ⟨x2, rfl, hx2, fr2⟩ := hp20
    rw [fr1.np] at hx2
    simp only [fr1.conf] at hx2
    refine xj_st (st' := [.inl x2]) rfl ?_
    refine xj_istore_n E d_X9_deploy_23 (by decide) rfl ?_
    refine xj_iload_n E d_X9_deploy_24 rfl ?_
    refine xj_if_ne (tgt := 33) E d_X9_deploy_25 (by decide) (fun h25 => ?_) (fun h25 => ?_)
    · first
        | exact hfin h4 x3 _ ((fr1.tr fr2).tr fr3) ⟨x1, hx1, Or.inr ⟨h16, x2, hx2, Or.inr ⟨h25, hx3⟩⟩⟩
        | exact hfin h4 x2 _ (fr1.tr fr2) ⟨x1, hx1, Or.inr ⟨h16, x2, hx2, Or.inl ⟨h25, rfl⟩⟩⟩
    refine xj_aload_n E d_X9_deploy_28 rfl ?_
    refine xj_callV E (k_X9_findFinalWithChain l G hI _ ((fr1.tr fr2).wf hw) ⟨by rw [(fr1.tr fr2).ni]; intro i hi; rw [(fr1.tr fr2).conf]; exact (xNC_of hw hx1 hx2 h16 h25).1 i hi, by rw [(fr1.tr fr2).np]; intro q hq; rw [(fr1.tr fr2).conf]; exact (xNC_of hw hx1 hx2 h16 h25).2 q hq⟩) cw_X9_152 cv_X9_findFinalWithChain (by decide) rfl rfl rfl ⟨by decide, by decide⟩ (Nat.le_of_ble_eq_true rfl) d_X9_deploy_29 ⟨Nat.zero_le _, Nat.zero_le _⟩ (fun r29 μ29 ho29 hp29 => ?_)
    obtain ⟨x3, rfl, hx3, fr3⟩ := hp29
    rw [(fr1.tr fr2).np, (fr1.tr fr2) 13 (by omega)] at hx3
    simp only [(fr1.tr fr2).chn] at hx3
    refine xj_st (st' := [.inl x3]) rfl ?_
    refine xj_istore_n E d_X9_deploy_32 (by decide) rfl ?_
    first
      | exact hfin h4 x3 _ ((fr1.tr fr2).tr fr3) ⟨x1, hx1, Or.inr ⟨h16, x2, hx2, Or.inr ⟨h25, hx3⟩⟩⟩
      | exact hfin h4 x2 _ (fr1.tr fr2) ⟨x1, hx1, Or.inr ⟨h16, x2, hx2, Or.inl ⟨h25, rfl⟩⟩⟩
  refine xj_bipush (v := -2) E d_X9_deploy_7 (by decide) ?_
  exact xj_iret E hr hlk d_X9_deploy_9 (Or.inl ⟨h4, rfl, rfl⟩)
end
section
theorem hasC_y {x y N : Int32} {n : Nat} (hN : N = nI n) (hn : n ≤ 1000) (h : ¬ (if (if x < 0 then (0 : Int32) else if N ≤ x then 0 else 1) = 0 then (0 : Int32) else if y < 0 then 0 else if 7 ≤ y then 0 else 1) = 0) : inR x n ∧ inR y 7 := by
  by_cases h1 : (if x < 0 then (0 : Int32) else if N ≤ x then 0 else 1) = 0
  · rw [if_pos h1] at h; exact absurd rfl h
  · rw [if_neg h1] at h
    by_cases h2 : y < 0
    · rw [if_pos h2] at h; exact absurd rfl h
    · rw [if_neg h2] at h
      by_cases h3 : 7 ≤ y
      · rw [if_pos h3] at h; exact absurd rfl h
      · exact ⟨inR_y hN hn h1, inR_of h2 (Int32.not_le.mp h3) (by omega)⟩
theorem hasC_n {x y N : Int32} {n : Nat} (hN : N = nI n) (hn : n ≤ 1000) (h : (if (if x < 0 then (0 : Int32) else if N ≤ x then 0 else 1) = 0 then (0 : Int32) else if y < 0 then 0 else if 7 ≤ y then 0 else 1) = 0) : ¬ (inR x n ∧ inR y 7) := by
  rintro ⟨h1, h2⟩
  by_cases h4 : (if x < 0 then (0 : Int32) else if N ≤ x then 0 else 1) = 0
  · exact inR_n hN hn h4 h1
  · rw [if_neg h4, if_neg (h2.ge (by omega)), if_neg (show ¬ 7 ≤ y from Int32.not_le.mpr (inR_lt (n := 7) h2 (by omega)))] at h
    exact i1_0 h

set_option maxRecDepth 100000 in
set_option maxHeartbeats 4000000 in
/-- X9 length -/
theorem k_X9_length (l : Launch) (G : XG) (hI : XI G) (a y : Int32) (μ : Mem) (hw : xWF μ) (hnc : ¬ μ 0 0 7 = 0 → xNC μ) : XMet l G y_X9_length c_X9_length 3 (some .int) 5 [.inr (0, 0), .inl a, .inl y] μ (fun r μ' => (μ 0 0 7 = 0 ∧ r = some (.inl (-6)) ∧ μ' = μ) ∨ (¬ μ 0 0 7 = 0 ∧ ¬ (inR a (xnp μ) ∧ inR y 7) ∧ r = some (.inl (-3)) ∧ μ' = μ) ∨ (¬ μ 0 0 7 = 0 ∧ ∃ j k, j < xnp μ ∧ k < 7 ∧ a = nI j ∧ y = nI k ∧ r = some (.inl (nI (xChn μ j k).length)) ∧ frS μ μ')) := by
  refine xj_met (by decide) hI (Nat.le_of_ble_eq_true rfl) ?_
  intro p e s m args below meth c E hr hlk
  have E : XE G (xA G) RX9 c_X9_length 3 p s m args c := E
  refine xj_loc (L' := [some (.inr (0, 0)), some (.inl a), some (.inl y)]) rfl ?_
  have hp0 := hw.2.2.2.1
  refine xj_aload_n E d_X9_length_0 rfl ?_
  refine xj_geti E fl_X9_74 (by decide) rfl (by decide) rfl d_X9_length_1 ?_
  refine xj_if_ne (tgt := 10) E d_X9_length_4 (by decide) (fun h4 => ?_) (fun h4 => ?_)
  · refine xj_aload_n E d_X9_length_10 rfl ?_
    refine xj_iload_n E d_X9_length_11 rfl ?_
    refine xj_iload_n E d_X9_length_12 rfl ?_
    refine xj_callV E (k_X9_hasChain l G hI a y _) cw_X9_155 cv_X9_hasChain (by decide) rfl rfl rfl ⟨by decide, by decide⟩ (Nat.le_of_ble_eq_true rfl) d_X9_length_13 ⟨Nat.zero_le _, Nat.zero_le _⟩ (fun r13 μ13 ho13 hp13 => ?_)
    obtain ⟨rfl, hm13⟩ := hp13
    refine xj_mem hm13 ?_
    refine xj_if_ne (tgt := 22) E d_X9_length_16 (by decide) (fun h16 => ?_) (fun h16 => ?_)
    · obtain ⟨⟨j, hj, rfl⟩, ⟨k, hk, rfl⟩⟩ := hasC_y hp0.1 (by omega) h16
      have hlen := xChn_len hw hj (mm := k)
      refine xj_aload_n E d_X9_length_22 rfl ?_
      refine xj_aload_n E d_X9_length_23 rfl ?_
      refine xj_geta E fl_X9_32 (by decide) rfl (by decide) rfl d_X9_length_24 ?_
      refine xj_iload_n E d_X9_length_27 rfl ?_
      refine xj_aald E (by decide) rfl (show vp_in (nI j) 4 from in_nI (by omega) (by omega)) d_X9_length_28 ?_
      refine xj_st (st' := [.inr (12, j), .inr (0, 0)]) (by rw [cl_nI (by omega)]; try rfl) ?_
      refine xj_iload_n E d_X9_length_29 rfl ?_
      refine xj_callV E (k_X9_buildChain l G hI j k _ hw (hnc h4) hj hk) cw_X9_158 cv_X9_buildChain (by decide) rfl rfl rfl ⟨by decide, by decide⟩ (Nat.le_of_ble_eq_true rfl) d_X9_length_30 ⟨Nat.zero_le _, Nat.zero_le _⟩ (fun r30 μ30 ho30 hp30 => ?_)
      obtain ⟨rfl, hfr, hch⟩ := hp30
      refine xj_aload_n E d_X9_length_33 rfl ?_
      refine xj_geta E fl_X9_50 (by decide) rfl (by decide) rfl d_X9_length_34 ?_
      refine xj_geti E fl_X9_162 (by decide) rfl (by decide) rfl d_X9_length_37 ?_
      exact xj_iret E hr hlk d_X9_length_40 (Or.inr (Or.inr ⟨h4, j, k, hj, hk, rfl, rfl, by rw [← hch.1], hfr⟩))
    refine xj_bipush (v := -3) E d_X9_length_19 (by decide) ?_
    exact xj_iret E hr hlk d_X9_length_21 (Or.inr (Or.inl ⟨h4, hasC_n hp0.1 (by omega) h16, rfl, rfl⟩))
  refine xj_bipush (v := -6) E d_X9_length_7 (by decide) ?_
  exact xj_iret E hr hlk d_X9_length_9 (Or.inl ⟨h4, rfl, rfl⟩)

set_option maxRecDepth 100000 in
set_option maxHeartbeats 4000000 in
/-- X9 element -/
theorem k_X9_element (l : Launch) (G : XG) (hI : XI G) (a y b : Int32) (μ : Mem) (hw : xWF μ) (hnc : ¬ μ 0 0 7 = 0 → xNC μ) : XMet l G y_X9_element c_X9_element 4 (some .int) 5 [.inr (0, 0), .inl a, .inl y, .inl b] μ (fun r μ' => (μ 0 0 7 = 0 ∧ r = some (.inl (-6)) ∧ μ' = μ) ∨ (¬ μ 0 0 7 = 0 ∧ ¬ (inR a (xnp μ) ∧ inR y 7) ∧ r = some (.inl (-3)) ∧ μ' = μ) ∨ (¬ μ 0 0 7 = 0 ∧ ∃ j k, j < xnp μ ∧ k < 7 ∧ a = nI j ∧ y = nI k ∧ frS μ μ' ∧ ((¬ inR b (xChn μ j k).length ∧ r = some (.inl (-3))) ∨ ∃ i q, (xChn μ j k)[i]? = some q ∧ b = nI i ∧ r = some (.inl q.1)))) := by
  refine xj_met (by decide) hI (Nat.le_of_ble_eq_true rfl) ?_
  intro p e s m args below meth c E hr hlk
  have E : XE G (xA G) RX9 c_X9_element 4 p s m args c := E
  refine xj_loc (L' := [some (.inr (0, 0)), some (.inl a), some (.inl y), some (.inl b)]) rfl ?_
  have hp0 := hw.2.2.2.1
  refine xj_aload_n E d_X9_element_0 rfl ?_
  refine xj_geti E fl_X9_74 (by decide) rfl (by decide) rfl d_X9_element_1 ?_
  refine xj_if_ne (tgt := 10) E d_X9_element_4 (by decide) (fun h4 => ?_) (fun h4 => ?_)
  · refine xj_aload_n E d_X9_element_10 rfl ?_
    refine xj_iload_n E d_X9_element_11 rfl ?_
    refine xj_iload_n E d_X9_element_12 rfl ?_
    refine xj_callV E (k_X9_hasChain l G hI a y _) cw_X9_155 cv_X9_hasChain (by decide) rfl rfl rfl ⟨by decide, by decide⟩ (Nat.le_of_ble_eq_true rfl) d_X9_element_13 ⟨Nat.zero_le _, Nat.zero_le _⟩ (fun r13 μ13 ho13 hp13 => ?_)
    obtain ⟨rfl, hm13⟩ := hp13
    refine xj_mem hm13 ?_
    refine xj_if_ne (tgt := 22) E d_X9_element_16 (by decide) (fun h16 => ?_) (fun h16 => ?_)
    · obtain ⟨⟨j, hj, rfl⟩, ⟨k, hk, rfl⟩⟩ := hasC_y hp0.1 (by omega) h16
      have hlen := xChn_len hw hj (mm := k)
      refine xj_aload_n E d_X9_element_22 rfl ?_
      refine xj_aload_n E d_X9_element_23 rfl ?_
      refine xj_geta E fl_X9_32 (by decide) rfl (by decide) rfl d_X9_element_24 ?_
      refine xj_iload_n E d_X9_element_27 rfl ?_
      refine xj_aald E (by decide) rfl (show vp_in (nI j) 4 from in_nI (by omega) (by omega)) d_X9_element_28 ?_
      refine xj_st (st' := [.inr (12, j), .inr (0, 0)]) (by rw [cl_nI (by omega)]; try rfl) ?_
      refine xj_iload_n E d_X9_element_29 rfl ?_
      refine xj_callV E (k_X9_buildChain l G hI j k _ hw (hnc h4) hj hk) cw_X9_158 cv_X9_buildChain (by decide) rfl rfl rfl ⟨by decide, by decide⟩ (Nat.le_of_ble_eq_true rfl) d_X9_element_30 ⟨Nat.zero_le _, Nat.zero_le _⟩ (fun r30 μ30 ho30 hp30 => ?_)
      obtain ⟨rfl, hfr, hch⟩ := hp30
      refine xj_iload_n E d_X9_element_33 rfl ?_
      refine xj_if_lt (tgt := 48) E d_X9_element_34 (by decide) (fun h34 => ?_) (fun h34 => ?_)
      · refine xj_bipush (v := -3) E d_X9_element_48 (by decide) ?_
        exact xj_iret E hr hlk d_X9_element_50 ((by first | exact Or.inr (Or.inr ⟨h4, j, k, hj, hk, rfl, rfl, hfr, Or.inl ⟨fun q => h45 (by rw [hch.1]; exact inR_lt q (by omega)), rfl⟩⟩) | exact Or.inr (Or.inr ⟨h4, j, k, hj, hk, rfl, rfl, hfr, Or.inl ⟨fun q => q.ge (by omega) h34, rfl⟩⟩)))
      refine xj_iload_n E d_X9_element_37 rfl ?_
      refine xj_aload_n E d_X9_element_38 rfl ?_
      refine xj_geta E fl_X9_50 (by decide) rfl (by decide) rfl d_X9_element_39 ?_
      refine xj_geti E fl_X9_162 (by decide) rfl (by decide) rfl d_X9_element_42 ?_
      refine xj_icmp_lt (tgt := 51) E d_X9_element_45 (by decide) (fun h45 => ?_) (fun h45 => ?_)
      · have hb : inR b (xChn μ j k).length := inR_of h34 (by rw [← hch.1]; exact h45) (by omega)
        obtain ⟨i, hi, rfl⟩ := hb
        refine xj_aload_n E d_X9_element_51 rfl ?_
        refine xj_geta E fl_X9_50 (by decide) rfl (by decide) rfl d_X9_element_52 ?_
        refine xj_geta E fl_X9_163 (by decide) rfl (by decide) rfl d_X9_element_55 ?_
        refine xj_iload_n E d_X9_element_58 rfl ?_
        refine xj_iald E (by decide) (show vp_in (nI i) 21 from in_nI (by omega) (by omega)) d_X9_element_59 ?_
        refine xj_st (st' := [.inl ((xChn μ j k)[i]).1]) (by rw [cl_nI (by omega), (hch.2 i _ (List.getElem?_eq_getElem hi)).1]; try rfl) ?_
        exact xj_iret E hr hlk d_X9_element_60 (Or.inr (Or.inr ⟨h4, j, k, hj, hk, rfl, rfl, hfr, Or.inr ⟨i, _, List.getElem?_eq_getElem hi, rfl, rfl⟩⟩))
      refine xj_bipush (v := -3) E d_X9_element_48 (by decide) ?_
      exact xj_iret E hr hlk d_X9_element_50 ((by first | exact Or.inr (Or.inr ⟨h4, j, k, hj, hk, rfl, rfl, hfr, Or.inl ⟨fun q => h45 (by rw [hch.1]; exact inR_lt q (by omega)), rfl⟩⟩) | exact Or.inr (Or.inr ⟨h4, j, k, hj, hk, rfl, rfl, hfr, Or.inl ⟨fun q => q.ge (by omega) h34, rfl⟩⟩)))
    refine xj_bipush (v := -3) E d_X9_element_19 (by decide) ?_
    exact xj_iret E hr hlk d_X9_element_21 (Or.inr (Or.inl ⟨h4, hasC_n hp0.1 (by omega) h16, rfl, rfl⟩))
  refine xj_bipush (v := -6) E d_X9_element_7 (by decide) ?_
  exact xj_iret E hr hlk d_X9_element_9 (Or.inl ⟨h4, rfl, rfl⟩)

/-- what an invocation does: the chain l in memory, method k, argument, whether the target fails -/
def xRun (μ1 : Mem) (n k : Nat) (b z : Int32) : Int32 × RS := rn (μ1 20 0) (μ1 21 0) (nI k) z n 0 b (0, μ1 23 0, b, 0)
def xFl (μ : Mem) (j k : Nat) : Int32 := if k < 4 then (if μ 13 (5 * j + 1 + k) 3 &&& 4 = 0 then 0 else 1) else 0
theorem xFl_01 (μ : Mem) (j k : Nat) : xFl μ j k = 0 ∨ xFl μ j k = 1 := by
  unfold xFl
  split
  · split
    · exact Or.inl rfl
    · exact Or.inr rfl
  · exact Or.inl rfl
theorem mrun_log (μ : Mem) (y z : Int32) (q : Int32 × RS) : mrun μ y z q 22 0 1 = nI q.2.1 := rfl

set_option maxRecDepth 100000 in
set_option maxHeartbeats 4000000 in
/-- X9 invoke -/
theorem k_X9_invoke (l : Launch) (G : XG) (hI : XI G) (a y b : Int32) (μ : Mem) (hw : xWF μ) (hnc : ¬ μ 0 0 7 = 0 → xNC μ) : XMet l G y_X9_invoke c_X9_invoke 4 (some .int) 88 [.inr (0, 0), .inl a, .inl y, .inl b] μ (fun r μ' => (μ 0 0 7 = 0 ∧ r = some (.inl (-6)) ∧ μ' = μ) ∨ (¬ μ 0 0 7 = 0 ∧ ¬ (inR a (xnp μ) ∧ inR y 7) ∧ r = some (.inl (-3)) ∧ μ' = μ) ∨ (¬ μ 0 0 7 = 0 ∧ ∃ j k, j < xnp μ ∧ k < 7 ∧ a = nI j ∧ y = nI k ∧ ∃ μ1, frS μ μ1 ∧ xCh μ1 (xChn μ j k) ∧ r = some (.inl (nI (xRun μ1 (xChn μ j k).length k (if k < 4 then b else 0) (xFl μ j k)).2.1)) ∧ μ' = mrun μ1 (nI k) (xFl μ j k) (xRun μ1 (xChn μ j k).length k (if k < 4 then b else 0) (xFl μ j k)))) := by
  refine xj_met (by decide) hI (Nat.le_of_ble_eq_true rfl) ?_
  intro p e s m args below meth c E hr hlk
  have E : XE G (xA G) RX9 c_X9_invoke 4 p s m args c := E
  refine xj_loc (L' := [some (.inr (0, 0)), some (.inl a), some (.inl y), some (.inl b)]) rfl ?_
  have hp0 := hw.2.2.2.1
  refine xj_aload_n E d_X9_invoke_0 rfl ?_
  refine xj_geti E fl_X9_74 (by decide) rfl (by decide) rfl d_X9_invoke_1 ?_
  refine xj_if_ne (tgt := 10) E d_X9_invoke_4 (by decide) (fun h4 => ?_) (fun h4 => ?_)
  · refine xj_aload_n E d_X9_invoke_10 rfl ?_
    refine xj_iload_n E d_X9_invoke_11 rfl ?_
    refine xj_iload_n E d_X9_invoke_12 rfl ?_
    refine xj_callV E (k_X9_hasChain l G hI a y _) cw_X9_155 cv_X9_hasChain (by decide) rfl rfl rfl ⟨by decide, by decide⟩ (Nat.le_of_ble_eq_true rfl) d_X9_invoke_13 ⟨Nat.zero_le _, Nat.zero_le _⟩ (fun r13 μ13 ho13 hp13 => ?_)
    obtain ⟨rfl, hm13⟩ := hp13
    refine xj_mem hm13 ?_
    refine xj_if_ne (tgt := 22) E d_X9_invoke_16 (by decide) (fun h16 => ?_) (fun h16 => ?_)
    · obtain ⟨⟨j, hj, rfl⟩, ⟨k, hk, rfl⟩⟩ := hasC_y hp0.1 (by omega) h16
      have hlen := xChn_len hw hj (mm := k)
      refine xj_aload_n E d_X9_invoke_22 rfl ?_
      refine xj_aload_n E d_X9_invoke_23 rfl ?_
      refine xj_geta E fl_X9_32 (by decide) rfl (by decide) rfl d_X9_invoke_24 ?_
      refine xj_iload_n E d_X9_invoke_27 rfl ?_
      refine xj_aald E (by decide) rfl (show vp_in (nI j) 4 from in_nI (by omega) (by omega)) d_X9_invoke_28 ?_
      refine xj_st (st' := [.inr (12, j), .inr (0, 0)]) (by rw [cl_nI (by omega)]; try rfl) ?_
      refine xj_iload_n E d_X9_invoke_29 rfl ?_
      refine xj_callV E (k_X9_buildChain l G hI j k _ hw (hnc h4) hj hk) cw_X9_158 cv_X9_buildChain (by decide) rfl rfl rfl ⟨by decide, by decide⟩ (Nat.le_of_ble_eq_true rfl) d_X9_invoke_30 ⟨Nat.zero_le _, Nat.zero_le _⟩ (fun r30 μ30 ho30 hp30 => ?_)
      obtain ⟨rfl, hfr, hch⟩ := hp30
      refine xj_iload_n E d_X9_invoke_33 rfl ?_
      refine xj_iconst (v := 4) E d_X9_invoke_34 (by decide) ?_
      refine xj_icmp_lt (tgt := 55) E d_X9_invoke_35 (by decide) (fun h35 => ?_) (fun h35 => ?_)
      · have hk4 : k < 4 := (nI_ltI (b := 4) (by omega) (by omega)).mp h35
        refine xj_aload_n E d_X9_invoke_55 rfl ?_
        refine xj_geta E fl_X9_57 (by decide) rfl (by decide) rfl d_X9_invoke_56 ?_
        refine xj_aload_n E d_X9_invoke_59 rfl ?_
        refine xj_geta E fl_X9_50 (by decide) rfl (by decide) rfl d_X9_invoke_60 ?_
        refine xj_iload_n E d_X9_invoke_63 rfl ?_
        refine xj_iload_n E d_X9_invoke_64 rfl ?_
        refine xj_aload_n E d_X9_invoke_65 rfl ?_
        refine xj_geta E fl_X9_32 (by decide) rfl (by decide) rfl d_X9_invoke_66 ?_
        refine xj_iload_n E d_X9_invoke_69 rfl ?_
        refine xj_aald E (by decide) rfl (show vp_in (nI j) 4 from in_nI (by omega) (by omega)) d_X9_invoke_70 ?_
        refine xj_st (st' := [.inr (12, j), .inl b, .inl (nI k), .inr (19, 0), .inr (22, 0)]) (by rw [cl_nI (by omega)]; try rfl) ?_
        refine xj_iload_n E d_X9_invoke_71 rfl ?_
        refine xj_callV E (k_X4_place l G hI j (nI k) _) cw_X9_129 cv_X4_place (by decide) rfl rfl rfl ⟨by decide, by decide⟩ (Nat.le_of_ble_eq_true rfl) d_X9_invoke_72 ⟨Nat.zero_le _, Nat.zero_le _⟩ (fun r72 μ72 ho72 hp72 => ?_)
        obtain ⟨rfl, hm72⟩ := hp72
        refine xj_mem hm72 ?_
        refine xj_st (st' := [.inr (13, 5 * j + 1 + k), .inl b, .inl (nI k), .inr (19, 0), .inr (22, 0)]) (by rw [if_neg (nI_pos (by omega)), if_pos h35, cl_nI (by omega)]; try rfl) ?_
        refine xj_iconst (v := 4) E d_X9_invoke_75 (by decide) ?_
        refine xj_callV E (k_X8_has l G hI (5 * j + 1 + k) 4 _) cw_X9_171 cv_X8_has (by decide) rfl rfl rfl ⟨by decide, by decide⟩ (Nat.le_of_ble_eq_true rfl) d_X9_invoke_76 ⟨Nat.zero_le _, Nat.zero_le _⟩ (fun r76 μ76 ho76 hp76 => ?_)
        obtain ⟨rfl, hm76⟩ := hp76
        refine xj_mem hm76 ?_
        have hfl : (if μ30 13 (5 * j + 1 + k) 3 &&& 4 = 0 then (0 : Int32) else 1) = xFl μ j k := by
          unfold xFl
          rw [if_pos hk4, hfr 13 (by omega)]
        refine xj_st (st' := [.inl (xFl μ j k), .inl b, .inl (nI k), .inr (19, 0), .inr (22, 0)]) (by rw [← hfl]; rfl) ?_
        refine xj_callV E (k_X7_run l G hI (xChn μ j k).length (nI k) b (xFl μ j k) _ (by omega) hch.1 (xFl_01 μ j k)) cw_X9_167 cv_X7_run (by decide) rfl rfl rfl ⟨by decide, by decide⟩ (Nat.le_of_ble_eq_true rfl) d_X9_invoke_79 ⟨Nat.zero_le _, Nat.zero_le _⟩ (fun r79 μ79 ho79 hp79 => ?_)
        obtain ⟨rfl, hm79⟩ := hp79
        first
          | refine xj_mem (μ' := mrun μ30 (nI k) (xFl μ j k) (xRun μ30 (xChn μ j k).length k (if k < 4 then b else 0) (xFl μ j k))) (by rw [hm79, if_pos hk4]; rfl) ?_
          | refine xj_mem (μ' := mrun μ30 (nI k) (xFl μ j k) (xRun μ30 (xChn μ j k).length k (if k < 4 then b else 0) (xFl μ j k))) (by rw [hm49, if_neg hk4]; unfold xFl; rw [if_neg hk4]; rfl) ?_
        refine xj_aload_n E d_X9_invoke_82 rfl ?_
        refine xj_geta E fl_X9_57 (by decide) rfl (by decide) rfl d_X9_invoke_83 ?_
        refine xj_geti E fl_X9_172 (by decide) rfl (by decide) rfl d_X9_invoke_86 ?_
        exact xj_iret E hr hlk d_X9_invoke_89 (Or.inr (Or.inr ⟨h4, j, k, hj, hk, rfl, rfl, μ30, hfr, hch, rfl, rfl⟩))
      have hk4 : ¬ k < 4 := fun q => h35 (lt4 q)
      refine xj_aload_n E d_X9_invoke_38 rfl ?_
      refine xj_geta E fl_X9_57 (by decide) rfl (by decide) rfl d_X9_invoke_39 ?_
      refine xj_aload_n E d_X9_invoke_42 rfl ?_
      refine xj_geta E fl_X9_50 (by decide) rfl (by decide) rfl d_X9_invoke_43 ?_
      refine xj_iload_n E d_X9_invoke_46 rfl ?_
      refine xj_iconst (v := 0) E d_X9_invoke_47 (by decide) ?_
      refine xj_iconst (v := 0) E d_X9_invoke_48 (by decide) ?_
      refine xj_callV E (k_X7_run l G hI (xChn μ j k).length (nI k) 0 0 _ (by omega) hch.1 (Or.inl rfl)) cw_X9_167 cv_X7_run (by decide) rfl rfl rfl ⟨by decide, by decide⟩ (Nat.le_of_ble_eq_true rfl) d_X9_invoke_49 ⟨Nat.zero_le _, Nat.zero_le _⟩ (fun r49 μ49 ho49 hp49 => ?_)
      obtain ⟨rfl, hm49⟩ := hp49
      refine xj_goto (tgt := 82) E d_X9_invoke_52 (by decide) ?_
      first
        | refine xj_mem (μ' := mrun μ30 (nI k) (xFl μ j k) (xRun μ30 (xChn μ j k).length k (if k < 4 then b else 0) (xFl μ j k))) (by rw [hm79, if_pos hk4]; rfl) ?_
        | refine xj_mem (μ' := mrun μ30 (nI k) (xFl μ j k) (xRun μ30 (xChn μ j k).length k (if k < 4 then b else 0) (xFl μ j k))) (by rw [hm49, if_neg hk4]; unfold xFl; rw [if_neg hk4]; rfl) ?_
      refine xj_aload_n E d_X9_invoke_82 rfl ?_
      refine xj_geta E fl_X9_57 (by decide) rfl (by decide) rfl d_X9_invoke_83 ?_
      refine xj_geti E fl_X9_172 (by decide) rfl (by decide) rfl d_X9_invoke_86 ?_
      exact xj_iret E hr hlk d_X9_invoke_89 (Or.inr (Or.inr ⟨h4, j, k, hj, hk, rfl, rfl, μ30, hfr, hch, rfl, rfl⟩))
    refine xj_bipush (v := -3) E d_X9_invoke_19 (by decide) ?_
    exact xj_iret E hr hlk d_X9_invoke_21 (Or.inr (Or.inl ⟨h4, hasC_n hp0.1 (by omega) h16, rfl, rfl⟩))
  refine xj_bipush (v := -6) E d_X9_invoke_7 (by decide) ?_
  exact xj_iret E hr hlk d_X9_invoke_9 (Or.inl ⟨h4, rfl, rfl⟩)

set_option maxRecDepth 100000 in
set_option maxHeartbeats 4000000 in
/-- X9 result -/
theorem k_X9_result (l : Launch) (G : XG) (hI : XI G)  (μ : Mem)  : XMet l G y_X9_result c_X9_result 1 (some .int) 0 [.inr (0, 0)] μ (fun r μ' => r = some (.inl (μ 22 0 2)) ∧ μ' = μ) := by
  refine xj_met (by decide) hI (Nat.le_of_ble_eq_true rfl) ?_
  intro p e s m args below meth c E hr hlk
  have E : XE G (xA G) RX9 c_X9_result 1 p s m args c := E
  refine xj_loc (L' := [some (.inr (0, 0))]) rfl ?_
  refine xj_aload_n E d_X9_result_0 rfl ?_
  refine xj_geta E fl_X9_57 (by decide) rfl (by decide) rfl d_X9_result_1 ?_
  refine xj_geti E fl_X9_175 (by decide) rfl (by decide) rfl d_X9_result_4 ?_
  exact xj_iret E hr hlk d_X9_result_7 (⟨rfl, rfl⟩)

set_option maxRecDepth 100000 in
set_option maxHeartbeats 4000000 in
/-- X9 error -/
theorem k_X9_error (l : Launch) (G : XG) (hI : XI G)  (μ : Mem)  : XMet l G y_X9_error c_X9_error 1 (some .int) 0 [.inr (0, 0)] μ (fun r μ' => r = some (.inl (μ 22 0 3)) ∧ μ' = μ) := by
  refine xj_met (by decide) hI (Nat.le_of_ble_eq_true rfl) ?_
  intro p e s m args below meth c E hr hlk
  have E : XE G (xA G) RX9 c_X9_error 1 p s m args c := E
  refine xj_loc (L' := [some (.inr (0, 0))]) rfl ?_
  refine xj_aload_n E d_X9_error_0 rfl ?_
  refine xj_geta E fl_X9_57 (by decide) rfl (by decide) rfl d_X9_error_1 ?_
  refine xj_geti E fl_X9_178 (by decide) rfl (by decide) rfl d_X9_error_4 ?_
  exact xj_iret E hr hlk d_X9_error_7 (⟨rfl, rfl⟩)

set_option maxRecDepth 100000 in
set_option maxHeartbeats 4000000 in
/-- X9 log -/
theorem k_X9_log (l : Launch) (G : XG) (hI : XI G) (b : Int32) (n : Nat) (μ : Mem) (hn : n ≤ 64) (hl : μ 22 0 1 = nI n) : XMet l G y_X9_log c_X9_log 2 (some .int) 0 [.inr (0, 0), .inl b] μ (fun r μ' => μ' = μ ∧ ((¬ inR b n ∧ r = some (.inl (-3))) ∨ ∃ i, i < n ∧ b = nI i ∧ r = some (.inl (μ 23 0 i)))) := by
  refine xj_met (by decide) hI (Nat.le_of_ble_eq_true rfl) ?_
  intro p e s m args below meth c E hr hlk
  have E : XE G (xA G) RX9 c_X9_log 2 p s m args c := E
  refine xj_loc (L' := [some (.inr (0, 0)), some (.inl b)]) rfl ?_
  refine xj_iload_n E d_X9_log_0 rfl ?_
  refine xj_if_lt (tgt := 15) E d_X9_log_1 (by decide) (fun h1 => ?_) (fun h1 => ?_)
  · refine xj_bipush (v := -3) E d_X9_log_15 (by decide) ?_
    exact xj_iret E hr hlk d_X9_log_17 ((by first | exact ⟨rfl, Or.inl ⟨fun q => h12 (by rw [hl]; exact inR_lt q (by omega)), rfl⟩⟩ | exact ⟨rfl, Or.inl ⟨fun q => q.ge (by omega) h1, rfl⟩⟩))
  refine xj_iload_n E d_X9_log_4 rfl ?_
  refine xj_aload_n E d_X9_log_5 rfl ?_
  refine xj_geta E fl_X9_57 (by decide) rfl (by decide) rfl d_X9_log_6 ?_
  refine xj_geti E fl_X9_172 (by decide) rfl (by decide) rfl d_X9_log_9 ?_
  refine xj_icmp_lt (tgt := 18) E d_X9_log_12 (by decide) (fun h12 => ?_) (fun h12 => ?_)
  · obtain ⟨i, hi, rfl⟩ := inR_of (n := n) h1 (by rw [← hl]; exact h12) (by omega)
    refine xj_aload_n E d_X9_log_18 rfl ?_
    refine xj_geta E fl_X9_57 (by decide) rfl (by decide) rfl d_X9_log_19 ?_
    refine xj_geta E fl_X9_181 (by decide) rfl (by decide) rfl d_X9_log_22 ?_
    refine xj_iload_n E d_X9_log_25 rfl ?_
    refine xj_iald E (by decide) (show vp_in (nI i) 64 from in_nI (by omega) (by omega)) d_X9_log_26 ?_
    refine xj_st (st' := [.inl (μ 23 0 i)]) (by rw [cl_nI (by omega)]; try rfl) ?_
    exact xj_iret E hr hlk d_X9_log_27 (⟨rfl, Or.inr ⟨i, hi, rfl, rfl⟩⟩)
  refine xj_bipush (v := -3) E d_X9_log_15 (by decide) ?_
  exact xj_iret E hr hlk d_X9_log_17 ((by first | exact ⟨rfl, Or.inl ⟨fun q => h12 (by rw [hl]; exact inR_lt q (by omega)), rfl⟩⟩ | exact ⟨rfl, Or.inl ⟨fun q => q.ge (by omega) h1, rfl⟩⟩))
end
section
theorem d_X10_init_0 : decode c_X10_init 0 = .ok (.aload_n 0, 1) := by decide +kernel
theorem d_X10_init_1 : decode c_X10_init 1 = .ok (.invokespecial 1, 3) := by decide +kernel
theorem d_X10_init_4 : decode c_X10_init 4 = .ok (.aload_n 0, 1) := by decide +kernel
theorem d_X10_init_5 : decode c_X10_init 5 = .ok (.bipush 8, 2) := by decide +kernel
theorem d_X10_init_7 : decode c_X10_init 7 = .ok (.newarray .boolean, 2) := by decide +kernel
theorem d_X10_init_9 : decode c_X10_init 9 = .ok (.putfield 7, 3) := by decide +kernel
theorem d_X10_init_12 : decode c_X10_init 12 = .ok (.aload_n 0, 1) := by decide +kernel
theorem d_X10_init_13 : decode c_X10_init 13 = .ok (.bipush 16, 2) := by decide +kernel
theorem d_X10_init_15 : decode c_X10_init 15 = .ok (.newarray .int, 2) := by decide +kernel
theorem d_X10_init_17 : decode c_X10_init 17 = .ok (.putfield 13, 3) := by decide +kernel
theorem d_X10_init_20 : decode c_X10_init 20 = .ok (.aload_n 0, 1) := by decide +kernel
theorem d_X10_init_21 : decode c_X10_init 21 = .ok (.bipush 16, 2) := by decide +kernel
theorem d_X10_init_23 : decode c_X10_init 23 = .ok (.newarray .int, 2) := by decide +kernel
theorem d_X10_init_25 : decode c_X10_init 25 = .ok (.putfield 17, 3) := by decide +kernel
theorem d_X10_init_28 : decode c_X10_init 28 = .ok (.aload_n 0, 1) := by decide +kernel
theorem d_X10_init_29 : decode c_X10_init 29 = .ok (.bipush 16, 2) := by decide +kernel
theorem d_X10_init_31 : decode c_X10_init 31 = .ok (.newarray .int, 2) := by decide +kernel
theorem d_X10_init_33 : decode c_X10_init 33 = .ok (.putfield 20, 3) := by decide +kernel
theorem d_X10_init_36 : decode c_X10_init 36 = .ok (.aload_n 0, 1) := by decide +kernel
theorem d_X10_init_37 : decode c_X10_init 37 = .ok (.bipush 8, 2) := by decide +kernel
theorem d_X10_init_39 : decode c_X10_init 39 = .ok (.newarray .int, 2) := by decide +kernel
theorem d_X10_init_41 : decode c_X10_init 41 = .ok (.putfield 23, 3) := by decide +kernel
theorem d_X10_init_44 : decode c_X10_init 44 = .ok (.aload_n 0, 1) := by decide +kernel
theorem d_X10_init_45 : decode c_X10_init 45 = .ok (.bipush 8, 2) := by decide +kernel
theorem d_X10_init_47 : decode c_X10_init 47 = .ok (.newarray .int, 2) := by decide +kernel
theorem d_X10_init_49 : decode c_X10_init 49 = .ok (.putfield 26, 3) := by decide +kernel
theorem d_X10_init_52 : decode c_X10_init 52 = .ok (.aload_n 0, 1) := by decide +kernel
theorem d_X10_init_53 : decode c_X10_init 53 = .ok (.bipush 8, 2) := by decide +kernel
theorem d_X10_init_55 : decode c_X10_init 55 = .ok (.newarray .int, 2) := by decide +kernel
theorem d_X10_init_57 : decode c_X10_init 57 = .ok (.putfield 29, 3) := by decide +kernel
theorem d_X10_init_60 : decode c_X10_init 60 = .ok (.aload_n 0, 1) := by decide +kernel
theorem d_X10_init_61 : decode c_X10_init 61 = .ok (.iconst 4, 1) := by decide +kernel
theorem d_X10_init_62 : decode c_X10_init 62 = .ok (.newarray .int, 2) := by decide +kernel
theorem d_X10_init_64 : decode c_X10_init 64 = .ok (.putfield 32, 3) := by decide +kernel
theorem d_X10_init_67 : decode c_X10_init 67 = .ok (.aload_n 0, 1) := by decide +kernel
theorem d_X10_init_68 : decode c_X10_init 68 = .ok (.iconst 4, 1) := by decide +kernel
theorem d_X10_init_69 : decode c_X10_init 69 = .ok (.newarray .int, 2) := by decide +kernel
theorem d_X10_init_71 : decode c_X10_init 71 = .ok (.putfield 35, 3) := by decide +kernel
theorem d_X10_init_74 : decode c_X10_init 74 = .ok (.aload_n 0, 1) := by decide +kernel
theorem d_X10_init_75 : decode c_X10_init 75 = .ok (.iconst 4, 1) := by decide +kernel
theorem d_X10_init_76 : decode c_X10_init 76 = .ok (.newarray .int, 2) := by decide +kernel
theorem d_X10_init_78 : decode c_X10_init 78 = .ok (.putfield 38, 3) := by decide +kernel
theorem d_X10_init_81 : decode c_X10_init 81 = .ok (.aload_n 0, 1) := by decide +kernel
theorem d_X10_init_82 : decode c_X10_init 82 = .ok (.iconst 4, 1) := by decide +kernel
theorem d_X10_init_83 : decode c_X10_init 83 = .ok (.newarray .int, 2) := by decide +kernel
theorem d_X10_init_85 : decode c_X10_init 85 = .ok (.putfield 41, 3) := by decide +kernel
theorem d_X10_init_88 : decode c_X10_init 88 = .ok (.aload_n 0, 1) := by decide +kernel
theorem d_X10_init_89 : decode c_X10_init 89 = .ok (.iconst 4, 1) := by decide +kernel
theorem d_X10_init_90 : decode c_X10_init 90 = .ok (.newarray .int, 2) := by decide +kernel
theorem d_X10_init_92 : decode c_X10_init 92 = .ok (.putfield 44, 3) := by decide +kernel
theorem d_X10_init_95 : decode c_X10_init 95 = .ok (.aload_n 0, 1) := by decide +kernel
theorem d_X10_init_96 : decode c_X10_init 96 = .ok (.bipush 16, 2) := by decide +kernel
theorem d_X10_init_98 : decode c_X10_init 98 = .ok (.newarray .int, 2) := by decide +kernel
theorem d_X10_init_100 : decode c_X10_init 100 = .ok (.putfield 47, 3) := by decide +kernel
theorem d_X10_init_103 : decode c_X10_init 103 = .ok (.aload_n 0, 1) := by decide +kernel
theorem d_X10_init_104 : decode c_X10_init 104 = .ok (.bipush 28, 2) := by decide +kernel
theorem d_X10_init_106 : decode c_X10_init 106 = .ok (.newarray .int, 2) := by decide +kernel
theorem d_X10_init_108 : decode c_X10_init 108 = .ok (.putfield 50, 3) := by decide +kernel
theorem d_X10_init_111 : decode c_X10_init 111 = .ok (.aload_n 0, 1) := by decide +kernel
theorem d_X10_init_112 : decode c_X10_init 112 = .ok (.bipush 112, 2) := by decide +kernel
theorem d_X10_init_114 : decode c_X10_init 114 = .ok (.newarray .int, 2) := by decide +kernel
theorem d_X10_init_116 : decode c_X10_init 116 = .ok (.putfield 53, 3) := by decide +kernel
theorem d_X10_init_119 : decode c_X10_init 119 = .ok (.aload_n 0, 1) := by decide +kernel
theorem d_X10_init_120 : decode c_X10_init 120 = .ok (.bipush 112, 2) := by decide +kernel
theorem d_X10_init_122 : decode c_X10_init 122 = .ok (.newarray .int, 2) := by decide +kernel
theorem d_X10_init_124 : decode c_X10_init 124 = .ok (.putfield 56, 3) := by decide +kernel
theorem d_X10_init_127 : decode c_X10_init 127 = .ok (.aload_n 0, 1) := by decide +kernel
theorem d_X10_init_128 : decode c_X10_init 128 = .ok (.bipush 28, 2) := by decide +kernel
theorem d_X10_init_130 : decode c_X10_init 130 = .ok (.newarray .int, 2) := by decide +kernel
theorem d_X10_init_132 : decode c_X10_init 132 = .ok (.putfield 59, 3) := by decide +kernel
theorem d_X10_init_135 : decode c_X10_init 135 = .ok (.aload_n 0, 1) := by decide +kernel
theorem d_X10_init_136 : decode c_X10_init 136 = .ok (.bipush 112, 2) := by decide +kernel
theorem d_X10_init_138 : decode c_X10_init 138 = .ok (.newarray .int, 2) := by decide +kernel
theorem d_X10_init_140 : decode c_X10_init 140 = .ok (.putfield 62, 3) := by decide +kernel
theorem d_X10_init_143 : decode c_X10_init 143 = .ok (.aload_n 0, 1) := by decide +kernel
theorem d_X10_init_144 : decode c_X10_init 144 = .ok (.bipush 24, 2) := by decide +kernel
theorem d_X10_init_146 : decode c_X10_init 146 = .ok (.newarray .int, 2) := by decide +kernel
theorem d_X10_init_148 : decode c_X10_init 148 = .ok (.putfield 65, 3) := by decide +kernel
theorem d_X10_init_151 : decode c_X10_init 151 = .ok (.aload_n 0, 1) := by decide +kernel
theorem d_X10_init_152 : decode c_X10_init 152 = .ok (.bipush 24, 2) := by decide +kernel
theorem d_X10_init_154 : decode c_X10_init 154 = .ok (.newarray .int, 2) := by decide +kernel
theorem d_X10_init_156 : decode c_X10_init 156 = .ok (.putfield 68, 3) := by decide +kernel
theorem d_X10_init_159 : decode c_X10_init 159 = .ok (.aload_n 0, 1) := by decide +kernel
theorem d_X10_init_160 : decode c_X10_init 160 = .ok (.bipush 48, 2) := by decide +kernel
theorem d_X10_init_162 : decode c_X10_init 162 = .ok (.newarray .int, 2) := by decide +kernel
theorem d_X10_init_164 : decode c_X10_init 164 = .ok (.putfield 71, 3) := by decide +kernel
theorem d_X10_init_167 : decode c_X10_init 167 = .ok (.aload_n 0, 1) := by decide +kernel
theorem d_X10_init_168 : decode c_X10_init 168 = .ok (.bipush 48, 2) := by decide +kernel
theorem d_X10_init_170 : decode c_X10_init 170 = .ok (.newarray .int, 2) := by decide +kernel
theorem d_X10_init_172 : decode c_X10_init 172 = .ok (.putfield 74, 3) := by decide +kernel
theorem d_X10_init_175 : decode c_X10_init 175 = .ok (.aload_n 0, 1) := by decide +kernel
theorem d_X10_init_176 : decode c_X10_init 176 = .ok (.bipush 24, 2) := by decide +kernel
theorem d_X10_init_178 : decode c_X10_init 178 = .ok (.newarray .int, 2) := by decide +kernel
theorem d_X10_init_180 : decode c_X10_init 180 = .ok (.putfield 77, 3) := by decide +kernel
theorem d_X10_init_183 : decode c_X10_init 183 = .ok (.aload_n 0, 1) := by decide +kernel
theorem d_X10_init_184 : decode c_X10_init 184 = .ok (.bipush 24, 2) := by decide +kernel
theorem d_X10_init_186 : decode c_X10_init 186 = .ok (.newarray .int, 2) := by decide +kernel
theorem d_X10_init_188 : decode c_X10_init 188 = .ok (.putfield 80, 3) := by decide +kernel
theorem d_X10_init_191 : decode c_X10_init 191 = .ok (.aload_n 0, 1) := by decide +kernel
theorem d_X10_init_192 : decode c_X10_init 192 = .ok (.bipush 24, 2) := by decide +kernel
theorem d_X10_init_194 : decode c_X10_init 194 = .ok (.newarray .int, 2) := by decide +kernel
theorem d_X10_init_196 : decode c_X10_init 196 = .ok (.putfield 83, 3) := by decide +kernel
theorem d_X10_init_199 : decode c_X10_init 199 = .ok (.aload_n 0, 1) := by decide +kernel
theorem d_X10_init_200 : decode c_X10_init 200 = .ok (.bipush 24, 2) := by decide +kernel
theorem d_X10_init_202 : decode c_X10_init 202 = .ok (.newarray .int, 2) := by decide +kernel
theorem d_X10_init_204 : decode c_X10_init 204 = .ok (.putfield 86, 3) := by decide +kernel
theorem d_X10_init_207 : decode c_X10_init 207 = .ok (.aload_n 0, 1) := by decide +kernel
theorem d_X10_init_208 : decode c_X10_init 208 = .ok (.bipush 64, 2) := by decide +kernel
theorem d_X10_init_210 : decode c_X10_init 210 = .ok (.newarray .int, 2) := by decide +kernel
theorem d_X10_init_212 : decode c_X10_init 212 = .ok (.putfield 89, 3) := by decide +kernel
theorem d_X10_init_215 : decode c_X10_init 215 = .ok (.return_, 1) := by decide +kernel
theorem d_X10_clear_0 : decode c_X10_clear 0 = .ok (.aload_n 0, 1) := by decide +kernel
theorem d_X10_clear_1 : decode c_X10_clear 1 = .ok (.iconst 0, 1) := by decide +kernel
theorem d_X10_clear_2 : decode c_X10_clear 2 = .ok (.putfield 92, 3) := by decide +kernel
theorem d_X10_clear_5 : decode c_X10_clear 5 = .ok (.aload_n 0, 1) := by decide +kernel
theorem d_X10_clear_6 : decode c_X10_clear 6 = .ok (.iconst 0, 1) := by decide +kernel
theorem d_X10_clear_7 : decode c_X10_clear 7 = .ok (.putfield 96, 3) := by decide +kernel
theorem d_X10_clear_10 : decode c_X10_clear 10 = .ok (.aload_n 0, 1) := by decide +kernel
theorem d_X10_clear_11 : decode c_X10_clear 11 = .ok (.iconst 0, 1) := by decide +kernel
theorem d_X10_clear_12 : decode c_X10_clear 12 = .ok (.putfield 100, 3) := by decide +kernel
theorem d_X10_clear_15 : decode c_X10_clear 15 = .ok (.aload_n 0, 1) := by decide +kernel
theorem d_X10_clear_16 : decode c_X10_clear 16 = .ok (.iconst 0, 1) := by decide +kernel
theorem d_X10_clear_17 : decode c_X10_clear 17 = .ok (.putfield 103, 3) := by decide +kernel
theorem d_X10_clear_20 : decode c_X10_clear 20 = .ok (.aload_n 0, 1) := by decide +kernel
theorem d_X10_clear_21 : decode c_X10_clear 21 = .ok (.iconst 0, 1) := by decide +kernel
theorem d_X10_clear_22 : decode c_X10_clear 22 = .ok (.putfield 106, 3) := by decide +kernel
theorem d_X10_clear_25 : decode c_X10_clear 25 = .ok (.aload_n 0, 1) := by decide +kernel
theorem d_X10_clear_26 : decode c_X10_clear 26 = .ok (.iconst 0, 1) := by decide +kernel
theorem d_X10_clear_27 : decode c_X10_clear 27 = .ok (.putfield 109, 3) := by decide +kernel
theorem d_X10_clear_30 : decode c_X10_clear 30 = .ok (.aload_n 0, 1) := by decide +kernel
theorem d_X10_clear_31 : decode c_X10_clear 31 = .ok (.iconst 0, 1) := by decide +kernel
theorem d_X10_clear_32 : decode c_X10_clear 32 = .ok (.putfield 112, 3) := by decide +kernel
theorem d_X10_clear_35 : decode c_X10_clear 35 = .ok (.aload_n 0, 1) := by decide +kernel
theorem d_X10_clear_36 : decode c_X10_clear 36 = .ok (.iconst 0, 1) := by decide +kernel
theorem d_X10_clear_37 : decode c_X10_clear 37 = .ok (.putfield 115, 3) := by decide +kernel
theorem d_X10_clear_40 : decode c_X10_clear 40 = .ok (.aload_n 0, 1) := by decide +kernel
theorem d_X10_clear_41 : decode c_X10_clear 41 = .ok (.iconst 0, 1) := by decide +kernel
theorem d_X10_clear_42 : decode c_X10_clear 42 = .ok (.putfield 118, 3) := by decide +kernel
theorem d_X10_clear_45 : decode c_X10_clear 45 = .ok (.iconst 0, 1) := by decide +kernel
theorem d_X10_clear_46 : decode c_X10_clear 46 = .ok (.istore_n 1, 1) := by decide +kernel
theorem d_X10_clear_47 : decode c_X10_clear 47 = .ok (.iload_n 1, 1) := by decide +kernel
theorem d_X10_clear_48 : decode c_X10_clear 48 = .ok (.bipush 28, 2) := by decide +kernel
theorem d_X10_clear_50 : decode c_X10_clear 50 = .ok (.if_icmp .ge 23, 3) := by decide +kernel
theorem d_X10_clear_53 : decode c_X10_clear 53 = .ok (.aload_n 0, 1) := by decide +kernel
theorem d_X10_clear_54 : decode c_X10_clear 54 = .ok (.getfield 50, 3) := by decide +kernel
theorem d_X10_clear_57 : decode c_X10_clear 57 = .ok (.iload_n 1, 1) := by decide +kernel
theorem d_X10_clear_58 : decode c_X10_clear 58 = .ok (.iconst 0, 1) := by decide +kernel
theorem d_X10_clear_59 : decode c_X10_clear 59 = .ok (.iastore, 1) := by decide +kernel
theorem d_X10_clear_60 : decode c_X10_clear 60 = .ok (.aload_n 0, 1) := by decide +kernel
theorem d_X10_clear_61 : decode c_X10_clear 61 = .ok (.getfield 59, 3) := by decide +kernel
theorem d_X10_clear_64 : decode c_X10_clear 64 = .ok (.iload_n 1, 1) := by decide +kernel
theorem d_X10_clear_65 : decode c_X10_clear 65 = .ok (.iconst 0, 1) := by decide +kernel
theorem d_X10_clear_66 : decode c_X10_clear 66 = .ok (.iastore, 1) := by decide +kernel
theorem d_X10_clear_67 : decode c_X10_clear 67 = .ok (.iinc 1 1, 3) := by decide +kernel
theorem d_X10_clear_70 : decode c_X10_clear 70 = .ok (.goto (-23), 3) := by decide +kernel
theorem d_X10_clear_73 : decode c_X10_clear 73 = .ok (.iconst 0, 1) := by decide +kernel
theorem d_X10_clear_74 : decode c_X10_clear 74 = .ok (.istore_n 1, 1) := by decide +kernel
theorem d_X10_clear_75 : decode c_X10_clear 75 = .ok (.iload_n 1, 1) := by decide +kernel
theorem d_X10_clear_76 : decode c_X10_clear 76 = .ok (.bipush 16, 2) := by decide +kernel
theorem d_X10_clear_78 : decode c_X10_clear 78 = .ok (.if_icmp .ge 16, 3) := by decide +kernel
theorem d_X10_clear_81 : decode c_X10_clear 81 = .ok (.aload_n 0, 1) := by decide +kernel
theorem d_X10_clear_82 : decode c_X10_clear 82 = .ok (.getfield 47, 3) := by decide +kernel
theorem d_X10_clear_85 : decode c_X10_clear 85 = .ok (.iload_n 1, 1) := by decide +kernel
theorem d_X10_clear_86 : decode c_X10_clear 86 = .ok (.iconst 0, 1) := by decide +kernel
theorem d_X10_clear_87 : decode c_X10_clear 87 = .ok (.iastore, 1) := by decide +kernel
theorem d_X10_clear_88 : decode c_X10_clear 88 = .ok (.iinc 1 1, 3) := by decide +kernel
theorem d_X10_clear_91 : decode c_X10_clear 91 = .ok (.goto (-16), 3) := by decide +kernel
theorem d_X10_clear_94 : decode c_X10_clear 94 = .ok (.return_, 1) := by decide +kernel
theorem d_X10_within_0 : decode c_X10_within 0 = .ok (.iload_n 0, 1) := by decide +kernel
theorem d_X10_within_1 : decode c_X10_within 1 = .ok (.ifCond .lt 12, 3) := by decide +kernel
theorem d_X10_within_4 : decode c_X10_within 4 = .ok (.iload_n 0, 1) := by decide +kernel
theorem d_X10_within_5 : decode c_X10_within 5 = .ok (.iload_n 1, 1) := by decide +kernel
theorem d_X10_within_6 : decode c_X10_within 6 = .ok (.if_icmp .gt 7, 3) := by decide +kernel
theorem d_X10_within_9 : decode c_X10_within 9 = .ok (.iconst 1, 1) := by decide +kernel
theorem d_X10_within_10 : decode c_X10_within 10 = .ok (.goto 4, 3) := by decide +kernel
theorem d_X10_within_13 : decode c_X10_within 13 = .ok (.iconst 0, 1) := by decide +kernel
theorem d_X10_within_14 : decode c_X10_within 14 = .ok (.ireturn, 1) := by decide +kernel
theorem d_X10_binding_0 : decode c_X10_binding 0 = .ok (.aload_n 0, 1) := by decide +kernel
theorem d_X10_binding_1 : decode c_X10_binding 1 = .ok (.getfield 92, 3) := by decide +kernel
theorem d_X10_binding_4 : decode c_X10_binding 4 = .ok (.ifCond .eq 6, 3) := by decide +kernel
theorem d_X10_binding_7 : decode c_X10_binding 7 = .ok (.bipush (-2), 2) := by decide +kernel
theorem d_X10_binding_9 : decode c_X10_binding 9 = .ok (.ireturn, 1) := by decide +kernel
theorem d_X10_binding_10 : decode c_X10_binding 10 = .ok (.aload_n 0, 1) := by decide +kernel
theorem d_X10_binding_11 : decode c_X10_binding 11 = .ok (.getfield 96, 3) := by decide +kernel
theorem d_X10_binding_14 : decode c_X10_binding 14 = .ok (.bipush 8, 2) := by decide +kernel
theorem d_X10_binding_16 : decode c_X10_binding 16 = .ok (.if_icmp .ne 6, 3) := by decide +kernel
theorem d_X10_binding_19 : decode c_X10_binding 19 = .ok (.bipush (-5), 2) := by decide +kernel
theorem d_X10_binding_21 : decode c_X10_binding 21 = .ok (.ireturn, 1) := by decide +kernel
theorem d_X10_binding_22 : decode c_X10_binding 22 = .ok (.aload_n 0, 1) := by decide +kernel
theorem d_X10_binding_23 : decode c_X10_binding 23 = .ok (.getfield 7, 3) := by decide +kernel
theorem d_X10_binding_26 : decode c_X10_binding 26 = .ok (.aload_n 0, 1) := by decide +kernel
theorem d_X10_binding_27 : decode c_X10_binding 27 = .ok (.getfield 96, 3) := by decide +kernel
theorem d_X10_binding_30 : decode c_X10_binding 30 = .ok (.iload_n 1, 1) := by decide +kernel
theorem d_X10_binding_31 : decode c_X10_binding 31 = .ok (.bastore, 1) := by decide +kernel
theorem d_X10_binding_32 : decode c_X10_binding 32 = .ok (.aload_n 0, 1) := by decide +kernel
theorem d_X10_binding_33 : decode c_X10_binding 33 = .ok (.dup, 1) := by decide +kernel
theorem d_X10_binding_34 : decode c_X10_binding 34 = .ok (.getfield 96, 3) := by decide +kernel
theorem d_X10_binding_37 : decode c_X10_binding 37 = .ok (.iconst 1, 1) := by decide +kernel
theorem d_X10_binding_38 : decode c_X10_binding 38 = .ok (.iadd, 1) := by decide +kernel
theorem d_X10_binding_39 : decode c_X10_binding 39 = .ok (.putfield 96, 3) := by decide +kernel
theorem d_X10_binding_42 : decode c_X10_binding 42 = .ok (.aload_n 0, 1) := by decide +kernel
theorem d_X10_binding_43 : decode c_X10_binding 43 = .ok (.getfield 96, 3) := by decide +kernel
theorem d_X10_binding_46 : decode c_X10_binding 46 = .ok (.iconst 1, 1) := by decide +kernel
theorem d_X10_binding_47 : decode c_X10_binding 47 = .ok (.isub, 1) := by decide +kernel
theorem d_X10_binding_48 : decode c_X10_binding 48 = .ok (.ireturn, 1) := by decide +kernel
theorem d_X10_carry_0 : decode c_X10_carry 0 = .ok (.aload_n 0, 1) := by decide +kernel
theorem d_X10_carry_1 : decode c_X10_carry 1 = .ok (.getfield 92, 3) := by decide +kernel
theorem d_X10_carry_4 : decode c_X10_carry 4 = .ok (.ifCond .eq 6, 3) := by decide +kernel
theorem d_X10_carry_7 : decode c_X10_carry 7 = .ok (.bipush (-2), 2) := by decide +kernel
theorem d_X10_carry_9 : decode c_X10_carry 9 = .ok (.ireturn, 1) := by decide +kernel
theorem d_X10_carry_10 : decode c_X10_carry 10 = .ok (.iload_n 1, 1) := by decide +kernel
theorem d_X10_carry_11 : decode c_X10_carry 11 = .ok (.aload_n 0, 1) := by decide +kernel
theorem d_X10_carry_12 : decode c_X10_carry 12 = .ok (.getfield 96, 3) := by decide +kernel
theorem d_X10_carry_15 : decode c_X10_carry 15 = .ok (.iconst 1, 1) := by decide +kernel
theorem d_X10_carry_16 : decode c_X10_carry 16 = .ok (.isub, 1) := by decide +kernel
theorem d_X10_carry_17 : decode c_X10_carry 17 = .ok (.invokestatic 121, 3) := by decide +kernel
theorem d_X10_carry_20 : decode c_X10_carry 20 = .ok (.ifCond .eq 16, 3) := by decide +kernel
theorem d_X10_carry_23 : decode c_X10_carry 23 = .ok (.iload_n 2, 1) := by decide +kernel
theorem d_X10_carry_24 : decode c_X10_carry 24 = .ok (.aload_n 0, 1) := by decide +kernel
theorem d_X10_carry_25 : decode c_X10_carry 25 = .ok (.getfield 96, 3) := by decide +kernel
theorem d_X10_carry_28 : decode c_X10_carry 28 = .ok (.iconst 1, 1) := by decide +kernel
theorem d_X10_carry_29 : decode c_X10_carry 29 = .ok (.isub, 1) := by decide +kernel
theorem d_X10_carry_30 : decode c_X10_carry 30 = .ok (.invokestatic 121, 3) := by decide +kernel
theorem d_X10_carry_33 : decode c_X10_carry 33 = .ok (.ifCond .ne 6, 3) := by decide +kernel
theorem d_X10_carry_36 : decode c_X10_carry 36 = .ok (.bipush (-3), 2) := by decide +kernel
theorem d_X10_carry_38 : decode c_X10_carry 38 = .ok (.ireturn, 1) := by decide +kernel
theorem d_X10_carry_39 : decode c_X10_carry 39 = .ok (.aload_n 0, 1) := by decide +kernel
theorem d_X10_carry_40 : decode c_X10_carry 40 = .ok (.getfield 100, 3) := by decide +kernel
theorem d_X10_carry_43 : decode c_X10_carry 43 = .ok (.bipush 16, 2) := by decide +kernel
theorem d_X10_carry_45 : decode c_X10_carry 45 = .ok (.if_icmp .ne 6, 3) := by decide +kernel
theorem d_X10_carry_48 : decode c_X10_carry 48 = .ok (.bipush (-5), 2) := by decide +kernel
theorem d_X10_carry_50 : decode c_X10_carry 50 = .ok (.ireturn, 1) := by decide +kernel
theorem d_X10_carry_51 : decode c_X10_carry 51 = .ok (.aload_n 0, 1) := by decide +kernel
theorem d_X10_carry_52 : decode c_X10_carry 52 = .ok (.getfield 13, 3) := by decide +kernel
theorem d_X10_carry_55 : decode c_X10_carry 55 = .ok (.aload_n 0, 1) := by decide +kernel
theorem d_X10_carry_56 : decode c_X10_carry 56 = .ok (.getfield 100, 3) := by decide +kernel
theorem d_X10_carry_59 : decode c_X10_carry 59 = .ok (.iload_n 1, 1) := by decide +kernel
theorem d_X10_carry_60 : decode c_X10_carry 60 = .ok (.iastore, 1) := by decide +kernel
theorem d_X10_carry_61 : decode c_X10_carry 61 = .ok (.aload_n 0, 1) := by decide +kernel
theorem d_X10_carry_62 : decode c_X10_carry 62 = .ok (.getfield 17, 3) := by decide +kernel
theorem d_X10_carry_65 : decode c_X10_carry 65 = .ok (.aload_n 0, 1) := by decide +kernel
theorem d_X10_carry_66 : decode c_X10_carry 66 = .ok (.getfield 100, 3) := by decide +kernel
theorem d_X10_carry_69 : decode c_X10_carry 69 = .ok (.iload_n 2, 1) := by decide +kernel
theorem d_X10_carry_70 : decode c_X10_carry 70 = .ok (.iastore, 1) := by decide +kernel
theorem d_X10_carry_71 : decode c_X10_carry 71 = .ok (.aload_n 0, 1) := by decide +kernel
theorem d_X10_carry_72 : decode c_X10_carry 72 = .ok (.getfield 20, 3) := by decide +kernel
theorem d_X10_carry_75 : decode c_X10_carry 75 = .ok (.aload_n 0, 1) := by decide +kernel
theorem d_X10_carry_76 : decode c_X10_carry 76 = .ok (.getfield 100, 3) := by decide +kernel
theorem d_X10_carry_79 : decode c_X10_carry 79 = .ok (.aload_n 0, 1) := by decide +kernel
theorem d_X10_carry_80 : decode c_X10_carry 80 = .ok (.getfield 7, 3) := by decide +kernel
theorem d_X10_carry_83 : decode c_X10_carry 83 = .ok (.iload_n 2, 1) := by decide +kernel
theorem d_X10_carry_84 : decode c_X10_carry 84 = .ok (.baload, 1) := by decide +kernel
theorem d_X10_carry_85 : decode c_X10_carry 85 = .ok (.ifCond .eq 7, 3) := by decide +kernel
theorem d_X10_carry_88 : decode c_X10_carry 88 = .ok (.iload_n 3, 1) := by decide +kernel
theorem d_X10_carry_89 : decode c_X10_carry 89 = .ok (.goto 4, 3) := by decide +kernel
theorem d_X10_carry_92 : decode c_X10_carry 92 = .ok (.iconst 0, 1) := by decide +kernel
theorem d_X10_carry_93 : decode c_X10_carry 93 = .ok (.iastore, 1) := by decide +kernel
theorem d_X10_carry_94 : decode c_X10_carry 94 = .ok (.aload_n 0, 1) := by decide +kernel
theorem d_X10_carry_95 : decode c_X10_carry 95 = .ok (.dup, 1) := by decide +kernel
theorem d_X10_carry_96 : decode c_X10_carry 96 = .ok (.getfield 100, 3) := by decide +kernel
theorem d_X10_carry_99 : decode c_X10_carry 99 = .ok (.iconst 1, 1) := by decide +kernel
theorem d_X10_carry_100 : decode c_X10_carry 100 = .ok (.iadd, 1) := by decide +kernel
theorem d_X10_carry_101 : decode c_X10_carry 101 = .ok (.putfield 100, 3) := by decide +kernel
theorem d_X10_carry_104 : decode c_X10_carry 104 = .ok (.iconst 0, 1) := by decide +kernel
theorem d_X10_carry_105 : decode c_X10_carry 105 = .ok (.ireturn, 1) := by decide +kernel
theorem d_X10_interceptor_0 : decode c_X10_interceptor 0 = .ok (.aload_n 0, 1) := by decide +kernel
theorem d_X10_interceptor_1 : decode c_X10_interceptor 1 = .ok (.getfield 92, 3) := by decide +kernel
theorem d_X10_interceptor_4 : decode c_X10_interceptor 4 = .ok (.ifCond .eq 6, 3) := by decide +kernel
theorem d_X10_interceptor_7 : decode c_X10_interceptor 7 = .ok (.bipush (-2), 2) := by decide +kernel
theorem d_X10_interceptor_9 : decode c_X10_interceptor 9 = .ok (.ireturn, 1) := by decide +kernel
theorem d_X10_interceptor_10 : decode c_X10_interceptor 10 = .ok (.iload_n 1, 1) := by decide +kernel
theorem d_X10_interceptor_11 : decode c_X10_interceptor 11 = .ok (.bipush 9, 2) := by decide +kernel
theorem d_X10_interceptor_13 : decode c_X10_interceptor 13 = .ok (.invokestatic 121, 3) := by decide +kernel
theorem d_X10_interceptor_16 : decode c_X10_interceptor 16 = .ok (.ifCond .eq 20, 3) := by decide +kernel
theorem d_X10_interceptor_19 : decode c_X10_interceptor 19 = .ok (.iload_n 2, 1) := by decide +kernel
theorem d_X10_interceptor_20 : decode c_X10_interceptor 20 = .ok (.bipush 15, 2) := by decide +kernel
theorem d_X10_interceptor_22 : decode c_X10_interceptor 22 = .ok (.invokestatic 121, 3) := by decide +kernel
theorem d_X10_interceptor_25 : decode c_X10_interceptor 25 = .ok (.ifCond .eq 11, 3) := by decide +kernel
theorem d_X10_interceptor_28 : decode c_X10_interceptor 28 = .ok (.iload_n 3, 1) := by decide +kernel
theorem d_X10_interceptor_29 : decode c_X10_interceptor 29 = .ok (.iconst 5, 1) := by decide +kernel
theorem d_X10_interceptor_30 : decode c_X10_interceptor 30 = .ok (.invokestatic 121, 3) := by decide +kernel
theorem d_X10_interceptor_33 : decode c_X10_interceptor 33 = .ok (.ifCond .ne 6, 3) := by decide +kernel
theorem d_X10_interceptor_36 : decode c_X10_interceptor 36 = .ok (.bipush (-4), 2) := by decide +kernel
theorem d_X10_interceptor_38 : decode c_X10_interceptor 38 = .ok (.ireturn, 1) := by decide +kernel
theorem d_X10_interceptor_39 : decode c_X10_interceptor 39 = .ok (.aload_n 0, 1) := by decide +kernel
theorem d_X10_interceptor_40 : decode c_X10_interceptor 40 = .ok (.getfield 103, 3) := by decide +kernel
theorem d_X10_interceptor_43 : decode c_X10_interceptor 43 = .ok (.bipush 8, 2) := by decide +kernel
theorem d_X10_interceptor_45 : decode c_X10_interceptor 45 = .ok (.if_icmp .ne 6, 3) := by decide +kernel
theorem d_X10_interceptor_48 : decode c_X10_interceptor 48 = .ok (.bipush (-5), 2) := by decide +kernel
theorem d_X10_interceptor_50 : decode c_X10_interceptor 50 = .ok (.ireturn, 1) := by decide +kernel
theorem d_X10_interceptor_51 : decode c_X10_interceptor 51 = .ok (.aload_n 0, 1) := by decide +kernel
theorem d_X10_interceptor_52 : decode c_X10_interceptor 52 = .ok (.getfield 23, 3) := by decide +kernel
theorem d_X10_interceptor_55 : decode c_X10_interceptor 55 = .ok (.aload_n 0, 1) := by decide +kernel
theorem d_X10_interceptor_56 : decode c_X10_interceptor 56 = .ok (.getfield 103, 3) := by decide +kernel
theorem d_X10_interceptor_59 : decode c_X10_interceptor 59 = .ok (.iload_n 1, 1) := by decide +kernel
theorem d_X10_interceptor_60 : decode c_X10_interceptor 60 = .ok (.iastore, 1) := by decide +kernel
theorem d_X10_interceptor_61 : decode c_X10_interceptor 61 = .ok (.aload_n 0, 1) := by decide +kernel
theorem d_X10_interceptor_62 : decode c_X10_interceptor 62 = .ok (.getfield 26, 3) := by decide +kernel
theorem d_X10_interceptor_65 : decode c_X10_interceptor 65 = .ok (.aload_n 0, 1) := by decide +kernel
theorem d_X10_interceptor_66 : decode c_X10_interceptor 66 = .ok (.getfield 103, 3) := by decide +kernel
theorem d_X10_interceptor_69 : decode c_X10_interceptor 69 = .ok (.iload_n 2, 1) := by decide +kernel
theorem d_X10_interceptor_70 : decode c_X10_interceptor 70 = .ok (.iastore, 1) := by decide +kernel
theorem d_X10_interceptor_71 : decode c_X10_interceptor 71 = .ok (.aload_n 0, 1) := by decide +kernel
theorem d_X10_interceptor_72 : decode c_X10_interceptor 72 = .ok (.getfield 29, 3) := by decide +kernel
theorem d_X10_interceptor_75 : decode c_X10_interceptor 75 = .ok (.aload_n 0, 1) := by decide +kernel
theorem d_X10_interceptor_76 : decode c_X10_interceptor 76 = .ok (.getfield 103, 3) := by decide +kernel
theorem d_X10_interceptor_79 : decode c_X10_interceptor 79 = .ok (.iload_n 3, 1) := by decide +kernel
theorem d_X10_interceptor_80 : decode c_X10_interceptor 80 = .ok (.iastore, 1) := by decide +kernel
theorem d_X10_interceptor_81 : decode c_X10_interceptor 81 = .ok (.aload_n 0, 1) := by decide +kernel
theorem d_X10_interceptor_82 : decode c_X10_interceptor 82 = .ok (.dup, 1) := by decide +kernel
theorem d_X10_interceptor_83 : decode c_X10_interceptor 83 = .ok (.getfield 103, 3) := by decide +kernel
theorem d_X10_interceptor_86 : decode c_X10_interceptor 86 = .ok (.iconst 1, 1) := by decide +kernel
theorem d_X10_interceptor_87 : decode c_X10_interceptor 87 = .ok (.iadd, 1) := by decide +kernel
theorem d_X10_interceptor_88 : decode c_X10_interceptor 88 = .ok (.putfield 103, 3) := by decide +kernel
theorem d_X10_interceptor_91 : decode c_X10_interceptor 91 = .ok (.aload_n 0, 1) := by decide +kernel
theorem d_X10_interceptor_92 : decode c_X10_interceptor 92 = .ok (.getfield 103, 3) := by decide +kernel
theorem d_X10_interceptor_95 : decode c_X10_interceptor 95 = .ok (.iconst 1, 1) := by decide +kernel
theorem d_X10_interceptor_96 : decode c_X10_interceptor 96 = .ok (.isub, 1) := by decide +kernel
theorem d_X10_interceptor_97 : decode c_X10_interceptor 97 = .ok (.ireturn, 1) := by decide +kernel
theorem d_X10_decorator_0 : decode c_X10_decorator 0 = .ok (.aload_n 0, 1) := by decide +kernel
theorem d_X10_decorator_1 : decode c_X10_decorator 1 = .ok (.getfield 92, 3) := by decide +kernel
theorem d_X10_decorator_4 : decode c_X10_decorator 4 = .ok (.ifCond .eq 6, 3) := by decide +kernel
theorem d_X10_decorator_7 : decode c_X10_decorator 7 = .ok (.bipush (-2), 2) := by decide +kernel
theorem d_X10_decorator_9 : decode c_X10_decorator 9 = .ok (.ireturn, 1) := by decide +kernel
theorem d_X10_decorator_10 : decode c_X10_decorator 10 = .ok (.iload_n 1, 1) := by decide +kernel
theorem d_X10_decorator_11 : decode c_X10_decorator 11 = .ok (.bipush 9, 2) := by decide +kernel
theorem d_X10_decorator_13 : decode c_X10_decorator 13 = .ok (.invokestatic 121, 3) := by decide +kernel
theorem d_X10_decorator_16 : decode c_X10_decorator 16 = .ok (.ifCond .eq 30, 3) := by decide +kernel
theorem d_X10_decorator_19 : decode c_X10_decorator 19 = .ok (.iload_n 2, 1) := by decide +kernel
theorem d_X10_decorator_20 : decode c_X10_decorator 20 = .ok (.bipush 7, 2) := by decide +kernel
theorem d_X10_decorator_22 : decode c_X10_decorator 22 = .ok (.invokestatic 121, 3) := by decide +kernel
theorem d_X10_decorator_25 : decode c_X10_decorator 25 = .ok (.ifCond .eq 21, 3) := by decide +kernel
theorem d_X10_decorator_28 : decode c_X10_decorator 28 = .ok (.iload_n 3, 1) := by decide +kernel
theorem d_X10_decorator_29 : decode c_X10_decorator 29 = .ok (.bipush 15, 2) := by decide +kernel
theorem d_X10_decorator_31 : decode c_X10_decorator 31 = .ok (.invokestatic 121, 3) := by decide +kernel
theorem d_X10_decorator_34 : decode c_X10_decorator 34 = .ok (.ifCond .eq 12, 3) := by decide +kernel
theorem d_X10_decorator_37 : decode c_X10_decorator 37 = .ok (.iload 4, 2) := by decide +kernel
theorem d_X10_decorator_39 : decode c_X10_decorator 39 = .ok (.iconst 5, 1) := by decide +kernel
theorem d_X10_decorator_40 : decode c_X10_decorator 40 = .ok (.invokestatic 121, 3) := by decide +kernel
theorem d_X10_decorator_43 : decode c_X10_decorator 43 = .ok (.ifCond .ne 6, 3) := by decide +kernel
theorem d_X10_decorator_46 : decode c_X10_decorator 46 = .ok (.bipush (-4), 2) := by decide +kernel
theorem d_X10_decorator_48 : decode c_X10_decorator 48 = .ok (.ireturn, 1) := by decide +kernel
theorem d_X10_decorator_49 : decode c_X10_decorator 49 = .ok (.aload_n 0, 1) := by decide +kernel
theorem d_X10_decorator_50 : decode c_X10_decorator 50 = .ok (.getfield 106, 3) := by decide +kernel
theorem d_X10_decorator_53 : decode c_X10_decorator 53 = .ok (.iconst 4, 1) := by decide +kernel
theorem d_X10_decorator_54 : decode c_X10_decorator 54 = .ok (.if_icmp .ne 6, 3) := by decide +kernel
theorem d_X10_decorator_57 : decode c_X10_decorator 57 = .ok (.bipush (-5), 2) := by decide +kernel
theorem d_X10_decorator_59 : decode c_X10_decorator 59 = .ok (.ireturn, 1) := by decide +kernel
theorem d_X10_decorator_60 : decode c_X10_decorator 60 = .ok (.aload_n 0, 1) := by decide +kernel
theorem d_X10_decorator_61 : decode c_X10_decorator 61 = .ok (.getfield 32, 3) := by decide +kernel
theorem d_X10_decorator_64 : decode c_X10_decorator 64 = .ok (.aload_n 0, 1) := by decide +kernel
theorem d_X10_decorator_65 : decode c_X10_decorator 65 = .ok (.getfield 106, 3) := by decide +kernel
theorem d_X10_decorator_68 : decode c_X10_decorator 68 = .ok (.iload_n 1, 1) := by decide +kernel
theorem d_X10_decorator_69 : decode c_X10_decorator 69 = .ok (.iastore, 1) := by decide +kernel
theorem d_X10_decorator_70 : decode c_X10_decorator 70 = .ok (.aload_n 0, 1) := by decide +kernel
theorem d_X10_decorator_71 : decode c_X10_decorator 71 = .ok (.getfield 35, 3) := by decide +kernel
theorem d_X10_decorator_74 : decode c_X10_decorator 74 = .ok (.aload_n 0, 1) := by decide +kernel
theorem d_X10_decorator_75 : decode c_X10_decorator 75 = .ok (.getfield 106, 3) := by decide +kernel
theorem d_X10_decorator_78 : decode c_X10_decorator 78 = .ok (.iload_n 2, 1) := by decide +kernel
theorem d_X10_decorator_79 : decode c_X10_decorator 79 = .ok (.iastore, 1) := by decide +kernel
theorem d_X10_decorator_80 : decode c_X10_decorator 80 = .ok (.aload_n 0, 1) := by decide +kernel
theorem d_X10_decorator_81 : decode c_X10_decorator 81 = .ok (.getfield 38, 3) := by decide +kernel
theorem d_X10_decorator_84 : decode c_X10_decorator 84 = .ok (.aload_n 0, 1) := by decide +kernel
theorem d_X10_decorator_85 : decode c_X10_decorator 85 = .ok (.getfield 106, 3) := by decide +kernel
theorem d_X10_decorator_88 : decode c_X10_decorator 88 = .ok (.iload_n 3, 1) := by decide +kernel
theorem d_X10_decorator_89 : decode c_X10_decorator 89 = .ok (.iastore, 1) := by decide +kernel
theorem d_X10_decorator_90 : decode c_X10_decorator 90 = .ok (.aload_n 0, 1) := by decide +kernel
theorem d_X10_decorator_91 : decode c_X10_decorator 91 = .ok (.getfield 41, 3) := by decide +kernel
theorem d_X10_decorator_94 : decode c_X10_decorator 94 = .ok (.aload_n 0, 1) := by decide +kernel
theorem d_X10_decorator_95 : decode c_X10_decorator 95 = .ok (.getfield 106, 3) := by decide +kernel
theorem d_X10_decorator_98 : decode c_X10_decorator 98 = .ok (.iload 4, 2) := by decide +kernel
theorem d_X10_decorator_100 : decode c_X10_decorator 100 = .ok (.iastore, 1) := by decide +kernel
theorem d_X10_decorator_101 : decode c_X10_decorator 101 = .ok (.aload_n 0, 1) := by decide +kernel
theorem d_X10_decorator_102 : decode c_X10_decorator 102 = .ok (.dup, 1) := by decide +kernel
theorem d_X10_decorator_103 : decode c_X10_decorator 103 = .ok (.getfield 106, 3) := by decide +kernel
theorem d_X10_decorator_106 : decode c_X10_decorator 106 = .ok (.iconst 1, 1) := by decide +kernel
theorem d_X10_decorator_107 : decode c_X10_decorator 107 = .ok (.iadd, 1) := by decide +kernel
theorem d_X10_decorator_108 : decode c_X10_decorator 108 = .ok (.putfield 106, 3) := by decide +kernel
theorem d_X10_decorator_111 : decode c_X10_decorator 111 = .ok (.aload_n 0, 1) := by decide +kernel
theorem d_X10_decorator_112 : decode c_X10_decorator 112 = .ok (.getfield 106, 3) := by decide +kernel
theorem d_X10_decorator_115 : decode c_X10_decorator 115 = .ok (.iconst 1, 1) := by decide +kernel
theorem d_X10_decorator_116 : decode c_X10_decorator 116 = .ok (.isub, 1) := by decide +kernel
theorem d_X10_decorator_117 : decode c_X10_decorator 117 = .ok (.ireturn, 1) := by decide +kernel
theorem d_X10_component_0 : decode c_X10_component 0 = .ok (.aload_n 0, 1) := by decide +kernel
theorem d_X10_component_1 : decode c_X10_component 1 = .ok (.getfield 92, 3) := by decide +kernel
theorem d_X10_component_4 : decode c_X10_component 4 = .ok (.ifCond .eq 6, 3) := by decide +kernel
theorem d_X10_component_7 : decode c_X10_component 7 = .ok (.bipush (-2), 2) := by decide +kernel
theorem d_X10_component_9 : decode c_X10_component 9 = .ok (.ireturn, 1) := by decide +kernel
theorem d_X10_component_10 : decode c_X10_component 10 = .ok (.iload_n 1, 1) := by decide +kernel
theorem d_X10_component_11 : decode c_X10_component 11 = .ok (.sipush 255, 3) := by decide +kernel
theorem d_X10_component_14 : decode c_X10_component 14 = .ok (.invokestatic 121, 3) := by decide +kernel
theorem d_X10_component_17 : decode c_X10_component 17 = .ok (.ifCond .ne 6, 3) := by decide +kernel
theorem d_X10_component_20 : decode c_X10_component 20 = .ok (.bipush (-4), 2) := by decide +kernel
theorem d_X10_component_22 : decode c_X10_component 22 = .ok (.ireturn, 1) := by decide +kernel
theorem d_X10_component_23 : decode c_X10_component 23 = .ok (.aload_n 0, 1) := by decide +kernel
theorem d_X10_component_24 : decode c_X10_component 24 = .ok (.getfield 109, 3) := by decide +kernel
theorem d_X10_component_27 : decode c_X10_component 27 = .ok (.iconst 4, 1) := by decide +kernel
theorem d_X10_component_28 : decode c_X10_component 28 = .ok (.if_icmp .ne 6, 3) := by decide +kernel
theorem d_X10_component_31 : decode c_X10_component 31 = .ok (.bipush (-5), 2) := by decide +kernel
theorem d_X10_component_33 : decode c_X10_component 33 = .ok (.ireturn, 1) := by decide +kernel
theorem d_X10_component_34 : decode c_X10_component 34 = .ok (.aload_n 0, 1) := by decide +kernel
theorem d_X10_component_35 : decode c_X10_component 35 = .ok (.getfield 44, 3) := by decide +kernel
theorem d_X10_component_38 : decode c_X10_component 38 = .ok (.aload_n 0, 1) := by decide +kernel
theorem d_X10_component_39 : decode c_X10_component 39 = .ok (.getfield 109, 3) := by decide +kernel
theorem d_X10_component_42 : decode c_X10_component 42 = .ok (.iload_n 1, 1) := by decide +kernel
theorem d_X10_component_43 : decode c_X10_component 43 = .ok (.iastore, 1) := by decide +kernel
theorem d_X10_component_44 : decode c_X10_component 44 = .ok (.aload_n 0, 1) := by decide +kernel
theorem d_X10_component_45 : decode c_X10_component 45 = .ok (.dup, 1) := by decide +kernel
theorem d_X10_component_46 : decode c_X10_component 46 = .ok (.getfield 109, 3) := by decide +kernel
theorem d_X10_component_49 : decode c_X10_component 49 = .ok (.iconst 1, 1) := by decide +kernel
theorem d_X10_component_50 : decode c_X10_component 50 = .ok (.iadd, 1) := by decide +kernel
theorem d_X10_component_51 : decode c_X10_component 51 = .ok (.putfield 109, 3) := by decide +kernel
theorem d_X10_component_54 : decode c_X10_component 54 = .ok (.aload_n 0, 1) := by decide +kernel
theorem d_X10_component_55 : decode c_X10_component 55 = .ok (.getfield 109, 3) := by decide +kernel
theorem d_X10_component_58 : decode c_X10_component 58 = .ok (.iconst 1, 1) := by decide +kernel
theorem d_X10_component_59 : decode c_X10_component 59 = .ok (.isub, 1) := by decide +kernel
theorem d_X10_component_60 : decode c_X10_component 60 = .ok (.ireturn, 1) := by decide +kernel
theorem d_X10_bindRow_0 : decode c_X10_bindRow 0 = .ok (.aload_n 0, 1) := by decide +kernel
theorem d_X10_bindRow_1 : decode c_X10_bindRow 1 = .ok (.getfield 50, 3) := by decide +kernel
theorem d_X10_bindRow_4 : decode c_X10_bindRow 4 = .ok (.iload_n 1, 1) := by decide +kernel
theorem d_X10_bindRow_5 : decode c_X10_bindRow 5 = .ok (.iaload, 1) := by decide +kernel
theorem d_X10_bindRow_6 : decode c_X10_bindRow 6 = .ok (.iconst 4, 1) := by decide +kernel
theorem d_X10_bindRow_7 : decode c_X10_bindRow 7 = .ok (.if_icmp .ne 6, 3) := by decide +kernel
theorem d_X10_bindRow_10 : decode c_X10_bindRow 10 = .ok (.bipush (-5), 2) := by decide +kernel
theorem d_X10_bindRow_12 : decode c_X10_bindRow 12 = .ok (.ireturn, 1) := by decide +kernel
theorem d_X10_bindRow_13 : decode c_X10_bindRow 13 = .ok (.aload_n 0, 1) := by decide +kernel
theorem d_X10_bindRow_14 : decode c_X10_bindRow 14 = .ok (.getfield 53, 3) := by decide +kernel
theorem d_X10_bindRow_17 : decode c_X10_bindRow 17 = .ok (.iconst 4, 1) := by decide +kernel
theorem d_X10_bindRow_18 : decode c_X10_bindRow 18 = .ok (.iload_n 1, 1) := by decide +kernel
theorem d_X10_bindRow_19 : decode c_X10_bindRow 19 = .ok (.imul, 1) := by decide +kernel
theorem d_X10_bindRow_20 : decode c_X10_bindRow 20 = .ok (.aload_n 0, 1) := by decide +kernel
theorem d_X10_bindRow_21 : decode c_X10_bindRow 21 = .ok (.getfield 50, 3) := by decide +kernel
theorem d_X10_bindRow_24 : decode c_X10_bindRow 24 = .ok (.iload_n 1, 1) := by decide +kernel
theorem d_X10_bindRow_25 : decode c_X10_bindRow 25 = .ok (.iaload, 1) := by decide +kernel
theorem d_X10_bindRow_26 : decode c_X10_bindRow 26 = .ok (.iadd, 1) := by decide +kernel
theorem d_X10_bindRow_27 : decode c_X10_bindRow 27 = .ok (.iload_n 2, 1) := by decide +kernel
theorem d_X10_bindRow_28 : decode c_X10_bindRow 28 = .ok (.iastore, 1) := by decide +kernel
theorem d_X10_bindRow_29 : decode c_X10_bindRow 29 = .ok (.aload_n 0, 1) := by decide +kernel
theorem d_X10_bindRow_30 : decode c_X10_bindRow 30 = .ok (.getfield 56, 3) := by decide +kernel
theorem d_X10_bindRow_33 : decode c_X10_bindRow 33 = .ok (.iconst 4, 1) := by decide +kernel
theorem d_X10_bindRow_34 : decode c_X10_bindRow 34 = .ok (.iload_n 1, 1) := by decide +kernel
theorem d_X10_bindRow_35 : decode c_X10_bindRow 35 = .ok (.imul, 1) := by decide +kernel
theorem d_X10_bindRow_36 : decode c_X10_bindRow 36 = .ok (.aload_n 0, 1) := by decide +kernel
theorem d_X10_bindRow_37 : decode c_X10_bindRow 37 = .ok (.getfield 50, 3) := by decide +kernel
theorem d_X10_bindRow_40 : decode c_X10_bindRow 40 = .ok (.iload_n 1, 1) := by decide +kernel
theorem d_X10_bindRow_41 : decode c_X10_bindRow 41 = .ok (.iaload, 1) := by decide +kernel
theorem d_X10_bindRow_42 : decode c_X10_bindRow 42 = .ok (.iadd, 1) := by decide +kernel
theorem d_X10_bindRow_43 : decode c_X10_bindRow 43 = .ok (.aload_n 0, 1) := by decide +kernel
theorem d_X10_bindRow_44 : decode c_X10_bindRow 44 = .ok (.getfield 7, 3) := by decide +kernel
theorem d_X10_bindRow_47 : decode c_X10_bindRow 47 = .ok (.iload_n 2, 1) := by decide +kernel
theorem d_X10_bindRow_48 : decode c_X10_bindRow 48 = .ok (.baload, 1) := by decide +kernel
theorem d_X10_bindRow_49 : decode c_X10_bindRow 49 = .ok (.ifCond .eq 7, 3) := by decide +kernel
theorem d_X10_bindRow_52 : decode c_X10_bindRow 52 = .ok (.iload_n 3, 1) := by decide +kernel
theorem d_X10_bindRow_53 : decode c_X10_bindRow 53 = .ok (.goto 4, 3) := by decide +kernel
theorem d_X10_bindRow_56 : decode c_X10_bindRow 56 = .ok (.iconst 0, 1) := by decide +kernel
theorem d_X10_bindRow_57 : decode c_X10_bindRow 57 = .ok (.iastore, 1) := by decide +kernel
theorem d_X10_bindRow_58 : decode c_X10_bindRow 58 = .ok (.aload_n 0, 1) := by decide +kernel
theorem d_X10_bindRow_59 : decode c_X10_bindRow 59 = .ok (.getfield 50, 3) := by decide +kernel
theorem d_X10_bindRow_62 : decode c_X10_bindRow 62 = .ok (.iload_n 1, 1) := by decide +kernel
theorem d_X10_bindRow_63 : decode c_X10_bindRow 63 = .ok (.dup2, 1) := by decide +kernel
theorem d_X10_bindRow_64 : decode c_X10_bindRow 64 = .ok (.iaload, 1) := by decide +kernel
theorem d_X10_bindRow_65 : decode c_X10_bindRow 65 = .ok (.iconst 1, 1) := by decide +kernel
theorem d_X10_bindRow_66 : decode c_X10_bindRow 66 = .ok (.iadd, 1) := by decide +kernel
theorem d_X10_bindRow_67 : decode c_X10_bindRow 67 = .ok (.iastore, 1) := by decide +kernel
theorem d_X10_bindRow_68 : decode c_X10_bindRow 68 = .ok (.iconst 0, 1) := by decide +kernel
theorem d_X10_bindRow_69 : decode c_X10_bindRow 69 = .ok (.ireturn, 1) := by decide +kernel
theorem d_X10_bindInterceptor_0 : decode c_X10_bindInterceptor 0 = .ok (.aload_n 0, 1) := by decide +kernel
theorem d_X10_bindInterceptor_1 : decode c_X10_bindInterceptor 1 = .ok (.getfield 92, 3) := by decide +kernel
theorem d_X10_bindInterceptor_4 : decode c_X10_bindInterceptor 4 = .ok (.ifCond .eq 6, 3) := by decide +kernel
theorem d_X10_bindInterceptor_7 : decode c_X10_bindInterceptor 7 = .ok (.bipush (-2), 2) := by decide +kernel
theorem d_X10_bindInterceptor_9 : decode c_X10_bindInterceptor 9 = .ok (.ireturn, 1) := by decide +kernel
theorem d_X10_bindInterceptor_10 : decode c_X10_bindInterceptor 10 = .ok (.iload_n 1, 1) := by decide +kernel
theorem d_X10_bindInterceptor_11 : decode c_X10_bindInterceptor 11 = .ok (.aload_n 0, 1) := by decide +kernel
theorem d_X10_bindInterceptor_12 : decode c_X10_bindInterceptor 12 = .ok (.getfield 103, 3) := by decide +kernel
theorem d_X10_bindInterceptor_15 : decode c_X10_bindInterceptor 15 = .ok (.iconst 1, 1) := by decide +kernel
theorem d_X10_bindInterceptor_16 : decode c_X10_bindInterceptor 16 = .ok (.isub, 1) := by decide +kernel
theorem d_X10_bindInterceptor_17 : decode c_X10_bindInterceptor 17 = .ok (.invokestatic 121, 3) := by decide +kernel
theorem d_X10_bindInterceptor_20 : decode c_X10_bindInterceptor 20 = .ok (.ifCond .eq 16, 3) := by decide +kernel
theorem d_X10_bindInterceptor_23 : decode c_X10_bindInterceptor 23 = .ok (.iload_n 2, 1) := by decide +kernel
theorem d_X10_bindInterceptor_24 : decode c_X10_bindInterceptor 24 = .ok (.aload_n 0, 1) := by decide +kernel
theorem d_X10_bindInterceptor_25 : decode c_X10_bindInterceptor 25 = .ok (.getfield 96, 3) := by decide +kernel
theorem d_X10_bindInterceptor_28 : decode c_X10_bindInterceptor 28 = .ok (.iconst 1, 1) := by decide +kernel
theorem d_X10_bindInterceptor_29 : decode c_X10_bindInterceptor 29 = .ok (.isub, 1) := by decide +kernel
theorem d_X10_bindInterceptor_30 : decode c_X10_bindInterceptor 30 = .ok (.invokestatic 121, 3) := by decide +kernel
theorem d_X10_bindInterceptor_33 : decode c_X10_bindInterceptor 33 = .ok (.ifCond .ne 6, 3) := by decide +kernel
theorem d_X10_bindInterceptor_36 : decode c_X10_bindInterceptor 36 = .ok (.bipush (-3), 2) := by decide +kernel
theorem d_X10_bindInterceptor_38 : decode c_X10_bindInterceptor 38 = .ok (.ireturn, 1) := by decide +kernel
theorem d_X10_bindInterceptor_39 : decode c_X10_bindInterceptor 39 = .ok (.aload_n 0, 1) := by decide +kernel
theorem d_X10_bindInterceptor_40 : decode c_X10_bindInterceptor 40 = .ok (.iload_n 1, 1) := by decide +kernel
theorem d_X10_bindInterceptor_41 : decode c_X10_bindInterceptor 41 = .ok (.iload_n 2, 1) := by decide +kernel
theorem d_X10_bindInterceptor_42 : decode c_X10_bindInterceptor 42 = .ok (.iload_n 3, 1) := by decide +kernel
theorem d_X10_bindInterceptor_43 : decode c_X10_bindInterceptor 43 = .ok (.invokevirtual 125, 3) := by decide +kernel
theorem d_X10_bindInterceptor_46 : decode c_X10_bindInterceptor 46 = .ok (.ireturn, 1) := by decide +kernel
theorem d_X10_rowOf_0 : decode c_X10_rowOf 0 = .ok (.iload_n 1, 1) := by decide +kernel
theorem d_X10_rowOf_1 : decode c_X10_rowOf 1 = .ok (.ifCond .ge 10, 3) := by decide +kernel
theorem d_X10_rowOf_4 : decode c_X10_rowOf 4 = .ok (.bipush 8, 2) := by decide +kernel
theorem d_X10_rowOf_6 : decode c_X10_rowOf 6 = .ok (.iload_n 0, 1) := by decide +kernel
theorem d_X10_rowOf_7 : decode c_X10_rowOf 7 = .ok (.iadd, 1) := by decide +kernel
theorem d_X10_rowOf_8 : decode c_X10_rowOf 8 = .ok (.goto 11, 3) := by decide +kernel
theorem d_X10_rowOf_11 : decode c_X10_rowOf 11 = .ok (.bipush 12, 2) := by decide +kernel
theorem d_X10_rowOf_13 : decode c_X10_rowOf 13 = .ok (.iconst 4, 1) := by decide +kernel
theorem d_X10_rowOf_14 : decode c_X10_rowOf 14 = .ok (.iload_n 0, 1) := by decide +kernel
theorem d_X10_rowOf_15 : decode c_X10_rowOf 15 = .ok (.imul, 1) := by decide +kernel
theorem d_X10_rowOf_16 : decode c_X10_rowOf 16 = .ok (.iadd, 1) := by decide +kernel
theorem d_X10_rowOf_17 : decode c_X10_rowOf 17 = .ok (.iload_n 1, 1) := by decide +kernel
theorem d_X10_rowOf_18 : decode c_X10_rowOf 18 = .ok (.iadd, 1) := by decide +kernel
theorem d_X10_rowOf_19 : decode c_X10_rowOf 19 = .ok (.ireturn, 1) := by decide +kernel
theorem d_X10_bind_0 : decode c_X10_bind 0 = .ok (.aload_n 0, 1) := by decide +kernel
theorem d_X10_bind_1 : decode c_X10_bind 1 = .ok (.getfield 92, 3) := by decide +kernel
theorem d_X10_bind_4 : decode c_X10_bind 4 = .ok (.ifCond .eq 6, 3) := by decide +kernel
theorem d_X10_bind_7 : decode c_X10_bind 7 = .ok (.bipush (-2), 2) := by decide +kernel
theorem d_X10_bind_9 : decode c_X10_bind 9 = .ok (.ireturn, 1) := by decide +kernel
theorem d_X10_bind_10 : decode c_X10_bind 10 = .ok (.iload_n 1, 1) := by decide +kernel
theorem d_X10_bind_11 : decode c_X10_bind 11 = .ok (.aload_n 0, 1) := by decide +kernel
theorem d_X10_bind_12 : decode c_X10_bind 12 = .ok (.getfield 109, 3) := by decide +kernel
theorem d_X10_bind_15 : decode c_X10_bind 15 = .ok (.iconst 1, 1) := by decide +kernel
theorem d_X10_bind_16 : decode c_X10_bind 16 = .ok (.isub, 1) := by decide +kernel
theorem d_X10_bind_17 : decode c_X10_bind 17 = .ok (.invokestatic 121, 3) := by decide +kernel
theorem d_X10_bind_20 : decode c_X10_bind 20 = .ok (.ifCond .eq 26, 3) := by decide +kernel
theorem d_X10_bind_23 : decode c_X10_bind 23 = .ok (.iload_n 2, 1) := by decide +kernel
theorem d_X10_bind_24 : decode c_X10_bind 24 = .ok (.iconst (-1), 1) := by decide +kernel
theorem d_X10_bind_25 : decode c_X10_bind 25 = .ok (.if_icmp .lt 21, 3) := by decide +kernel
theorem d_X10_bind_28 : decode c_X10_bind 28 = .ok (.iload_n 2, 1) := by decide +kernel
theorem d_X10_bind_29 : decode c_X10_bind 29 = .ok (.iconst 3, 1) := by decide +kernel
theorem d_X10_bind_30 : decode c_X10_bind 30 = .ok (.if_icmp .gt 16, 3) := by decide +kernel
theorem d_X10_bind_33 : decode c_X10_bind 33 = .ok (.iload_n 3, 1) := by decide +kernel
theorem d_X10_bind_34 : decode c_X10_bind 34 = .ok (.aload_n 0, 1) := by decide +kernel
theorem d_X10_bind_35 : decode c_X10_bind 35 = .ok (.getfield 96, 3) := by decide +kernel
theorem d_X10_bind_38 : decode c_X10_bind 38 = .ok (.iconst 1, 1) := by decide +kernel
theorem d_X10_bind_39 : decode c_X10_bind 39 = .ok (.isub, 1) := by decide +kernel
theorem d_X10_bind_40 : decode c_X10_bind 40 = .ok (.invokestatic 121, 3) := by decide +kernel
theorem d_X10_bind_43 : decode c_X10_bind 43 = .ok (.ifCond .ne 6, 3) := by decide +kernel
theorem d_X10_bind_46 : decode c_X10_bind 46 = .ok (.bipush (-3), 2) := by decide +kernel
theorem d_X10_bind_48 : decode c_X10_bind 48 = .ok (.ireturn, 1) := by decide +kernel
theorem d_X10_bind_49 : decode c_X10_bind 49 = .ok (.iload_n 1, 1) := by decide +kernel
theorem d_X10_bind_50 : decode c_X10_bind 50 = .ok (.iload_n 2, 1) := by decide +kernel
theorem d_X10_bind_51 : decode c_X10_bind 51 = .ok (.invokestatic 129, 3) := by decide +kernel
theorem d_X10_bind_54 : decode c_X10_bind 54 = .ok (.istore 5, 2) := by decide +kernel
theorem d_X10_bind_56 : decode c_X10_bind 56 = .ok (.aload_n 0, 1) := by decide +kernel
theorem d_X10_bind_57 : decode c_X10_bind 57 = .ok (.iload 5, 2) := by decide +kernel
theorem d_X10_bind_59 : decode c_X10_bind 59 = .ok (.iload_n 3, 1) := by decide +kernel
theorem d_X10_bind_60 : decode c_X10_bind 60 = .ok (.iload 4, 2) := by decide +kernel
theorem d_X10_bind_62 : decode c_X10_bind 62 = .ok (.invokevirtual 125, 3) := by decide +kernel
theorem d_X10_bind_65 : decode c_X10_bind 65 = .ok (.ireturn, 1) := by decide +kernel
theorem d_X10_list_0 : decode c_X10_list 0 = .ok (.aload_n 0, 1) := by decide +kernel
theorem d_X10_list_1 : decode c_X10_list 1 = .ok (.getfield 92, 3) := by decide +kernel
theorem d_X10_list_4 : decode c_X10_list 4 = .ok (.ifCond .eq 6, 3) := by decide +kernel
theorem d_X10_list_7 : decode c_X10_list 7 = .ok (.bipush (-2), 2) := by decide +kernel
theorem d_X10_list_9 : decode c_X10_list 9 = .ok (.ireturn, 1) := by decide +kernel
theorem d_X10_list_10 : decode c_X10_list 10 = .ok (.iload_n 1, 1) := by decide +kernel
theorem d_X10_list_11 : decode c_X10_list 11 = .ok (.aload_n 0, 1) := by decide +kernel
theorem d_X10_list_12 : decode c_X10_list 12 = .ok (.getfield 109, 3) := by decide +kernel
theorem d_X10_list_15 : decode c_X10_list 15 = .ok (.iconst 1, 1) := by decide +kernel
theorem d_X10_list_16 : decode c_X10_list 16 = .ok (.isub, 1) := by decide +kernel
theorem d_X10_list_17 : decode c_X10_list 17 = .ok (.invokestatic 121, 3) := by decide +kernel
theorem d_X10_list_20 : decode c_X10_list 20 = .ok (.ifCond .eq 26, 3) := by decide +kernel
theorem d_X10_list_23 : decode c_X10_list 23 = .ok (.iload_n 2, 1) := by decide +kernel
theorem d_X10_list_24 : decode c_X10_list 24 = .ok (.iconst (-1), 1) := by decide +kernel
theorem d_X10_list_25 : decode c_X10_list 25 = .ok (.if_icmp .lt 21, 3) := by decide +kernel
theorem d_X10_list_28 : decode c_X10_list 28 = .ok (.iload_n 2, 1) := by decide +kernel
theorem d_X10_list_29 : decode c_X10_list 29 = .ok (.iconst 3, 1) := by decide +kernel
theorem d_X10_list_30 : decode c_X10_list 30 = .ok (.if_icmp .gt 16, 3) := by decide +kernel
theorem d_X10_list_33 : decode c_X10_list 33 = .ok (.iload_n 3, 1) := by decide +kernel
theorem d_X10_list_34 : decode c_X10_list 34 = .ok (.aload_n 0, 1) := by decide +kernel
theorem d_X10_list_35 : decode c_X10_list 35 = .ok (.getfield 103, 3) := by decide +kernel
theorem d_X10_list_38 : decode c_X10_list 38 = .ok (.iconst 1, 1) := by decide +kernel
theorem d_X10_list_39 : decode c_X10_list 39 = .ok (.isub, 1) := by decide +kernel
theorem d_X10_list_40 : decode c_X10_list 40 = .ok (.invokestatic 121, 3) := by decide +kernel
theorem d_X10_list_43 : decode c_X10_list 43 = .ok (.ifCond .ne 6, 3) := by decide +kernel
theorem d_X10_list_46 : decode c_X10_list 46 = .ok (.bipush (-3), 2) := by decide +kernel
theorem d_X10_list_48 : decode c_X10_list 48 = .ok (.ireturn, 1) := by decide +kernel
theorem d_X10_list_49 : decode c_X10_list 49 = .ok (.iload_n 1, 1) := by decide +kernel
theorem d_X10_list_50 : decode c_X10_list 50 = .ok (.iload_n 2, 1) := by decide +kernel
theorem d_X10_list_51 : decode c_X10_list 51 = .ok (.invokestatic 129, 3) := by decide +kernel
theorem d_X10_list_54 : decode c_X10_list 54 = .ok (.istore 4, 2) := by decide +kernel
theorem d_X10_list_56 : decode c_X10_list 56 = .ok (.aload_n 0, 1) := by decide +kernel
theorem d_X10_list_57 : decode c_X10_list 57 = .ok (.getfield 59, 3) := by decide +kernel
theorem d_X10_list_60 : decode c_X10_list 60 = .ok (.iload 4, 2) := by decide +kernel
theorem d_X10_list_62 : decode c_X10_list 62 = .ok (.iaload, 1) := by decide +kernel
theorem d_X10_list_63 : decode c_X10_list 63 = .ok (.iconst 4, 1) := by decide +kernel
theorem d_X10_list_64 : decode c_X10_list 64 = .ok (.if_icmp .ne 6, 3) := by decide +kernel
theorem d_X10_list_67 : decode c_X10_list 67 = .ok (.bipush (-5), 2) := by decide +kernel
theorem d_X10_list_69 : decode c_X10_list 69 = .ok (.ireturn, 1) := by decide +kernel
theorem d_X10_list_70 : decode c_X10_list 70 = .ok (.aload_n 0, 1) := by decide +kernel
theorem d_X10_list_71 : decode c_X10_list 71 = .ok (.getfield 62, 3) := by decide +kernel
theorem d_X10_list_74 : decode c_X10_list 74 = .ok (.iconst 4, 1) := by decide +kernel
theorem d_X10_list_75 : decode c_X10_list 75 = .ok (.iload 4, 2) := by decide +kernel
theorem d_X10_list_77 : decode c_X10_list 77 = .ok (.imul, 1) := by decide +kernel
theorem d_X10_list_78 : decode c_X10_list 78 = .ok (.aload_n 0, 1) := by decide +kernel
theorem d_X10_list_79 : decode c_X10_list 79 = .ok (.getfield 59, 3) := by decide +kernel
theorem d_X10_list_82 : decode c_X10_list 82 = .ok (.iload 4, 2) := by decide +kernel
theorem d_X10_list_84 : decode c_X10_list 84 = .ok (.iaload, 1) := by decide +kernel
theorem d_X10_list_85 : decode c_X10_list 85 = .ok (.iadd, 1) := by decide +kernel
theorem d_X10_list_86 : decode c_X10_list 86 = .ok (.iload_n 3, 1) := by decide +kernel
theorem d_X10_list_87 : decode c_X10_list 87 = .ok (.iastore, 1) := by decide +kernel
theorem d_X10_list_88 : decode c_X10_list 88 = .ok (.aload_n 0, 1) := by decide +kernel
theorem d_X10_list_89 : decode c_X10_list 89 = .ok (.getfield 59, 3) := by decide +kernel
theorem d_X10_list_92 : decode c_X10_list 92 = .ok (.iload 4, 2) := by decide +kernel
theorem d_X10_list_94 : decode c_X10_list 94 = .ok (.dup2, 1) := by decide +kernel
theorem d_X10_list_95 : decode c_X10_list 95 = .ok (.iaload, 1) := by decide +kernel
theorem d_X10_list_96 : decode c_X10_list 96 = .ok (.iconst 1, 1) := by decide +kernel
theorem d_X10_list_97 : decode c_X10_list 97 = .ok (.iadd, 1) := by decide +kernel
theorem d_X10_list_98 : decode c_X10_list 98 = .ok (.iastore, 1) := by decide +kernel
theorem d_X10_list_99 : decode c_X10_list 99 = .ok (.iconst 0, 1) := by decide +kernel
theorem d_X10_list_100 : decode c_X10_list 100 = .ok (.ireturn, 1) := by decide +kernel
theorem d_X10_flags_0 : decode c_X10_flags 0 = .ok (.aload_n 0, 1) := by decide +kernel
theorem d_X10_flags_1 : decode c_X10_flags 1 = .ok (.getfield 92, 3) := by decide +kernel
theorem d_X10_flags_4 : decode c_X10_flags 4 = .ok (.ifCond .eq 6, 3) := by decide +kernel
theorem d_X10_flags_7 : decode c_X10_flags 7 = .ok (.bipush (-2), 2) := by decide +kernel
theorem d_X10_flags_9 : decode c_X10_flags 9 = .ok (.ireturn, 1) := by decide +kernel
theorem d_X10_flags_10 : decode c_X10_flags 10 = .ok (.iload_n 1, 1) := by decide +kernel
theorem d_X10_flags_11 : decode c_X10_flags 11 = .ok (.aload_n 0, 1) := by decide +kernel
theorem d_X10_flags_12 : decode c_X10_flags 12 = .ok (.getfield 109, 3) := by decide +kernel
theorem d_X10_flags_15 : decode c_X10_flags 15 = .ok (.iconst 1, 1) := by decide +kernel
theorem d_X10_flags_16 : decode c_X10_flags 16 = .ok (.isub, 1) := by decide +kernel
theorem d_X10_flags_17 : decode c_X10_flags 17 = .ok (.invokestatic 121, 3) := by decide +kernel
theorem d_X10_flags_20 : decode c_X10_flags 20 = .ok (.ifCond .eq 11, 3) := by decide +kernel
theorem d_X10_flags_23 : decode c_X10_flags 23 = .ok (.iload_n 2, 1) := by decide +kernel
theorem d_X10_flags_24 : decode c_X10_flags 24 = .ok (.iconst 3, 1) := by decide +kernel
theorem d_X10_flags_25 : decode c_X10_flags 25 = .ok (.invokestatic 121, 3) := by decide +kernel
theorem d_X10_flags_28 : decode c_X10_flags 28 = .ok (.ifCond .ne 6, 3) := by decide +kernel
theorem d_X10_flags_31 : decode c_X10_flags 31 = .ok (.bipush (-3), 2) := by decide +kernel
theorem d_X10_flags_33 : decode c_X10_flags 33 = .ok (.ireturn, 1) := by decide +kernel
theorem d_X10_flags_34 : decode c_X10_flags 34 = .ok (.iload_n 3, 1) := by decide +kernel
theorem d_X10_flags_35 : decode c_X10_flags 35 = .ok (.bipush 7, 2) := by decide +kernel
theorem d_X10_flags_37 : decode c_X10_flags 37 = .ok (.invokestatic 121, 3) := by decide +kernel
theorem d_X10_flags_40 : decode c_X10_flags 40 = .ok (.ifCond .ne 6, 3) := by decide +kernel
theorem d_X10_flags_43 : decode c_X10_flags 43 = .ok (.bipush (-4), 2) := by decide +kernel
theorem d_X10_flags_45 : decode c_X10_flags 45 = .ok (.ireturn, 1) := by decide +kernel
theorem d_X10_flags_46 : decode c_X10_flags 46 = .ok (.aload_n 0, 1) := by decide +kernel
theorem d_X10_flags_47 : decode c_X10_flags 47 = .ok (.getfield 47, 3) := by decide +kernel
theorem d_X10_flags_50 : decode c_X10_flags 50 = .ok (.iconst 4, 1) := by decide +kernel
theorem d_X10_flags_51 : decode c_X10_flags 51 = .ok (.iload_n 1, 1) := by decide +kernel
theorem d_X10_flags_52 : decode c_X10_flags 52 = .ok (.imul, 1) := by decide +kernel
theorem d_X10_flags_53 : decode c_X10_flags 53 = .ok (.iload_n 2, 1) := by decide +kernel
theorem d_X10_flags_54 : decode c_X10_flags 54 = .ok (.iadd, 1) := by decide +kernel
theorem d_X10_flags_55 : decode c_X10_flags 55 = .ok (.iload_n 3, 1) := by decide +kernel
theorem d_X10_flags_56 : decode c_X10_flags 56 = .ok (.iastore, 1) := by decide +kernel
theorem d_X10_flags_57 : decode c_X10_flags 57 = .ok (.iconst 0, 1) := by decide +kernel
theorem d_X10_flags_58 : decode c_X10_flags 58 = .ok (.ireturn, 1) := by decide +kernel
theorem d_X10_add_0 : decode c_X10_add 0 = .ok (.iconst 0, 1) := by decide +kernel
theorem d_X10_add_1 : decode c_X10_add 1 = .ok (.istore_n 3, 1) := by decide +kernel
theorem d_X10_add_2 : decode c_X10_add 2 = .ok (.iload_n 3, 1) := by decide +kernel
theorem d_X10_add_3 : decode c_X10_add 3 = .ok (.aload_n 0, 1) := by decide +kernel
theorem d_X10_add_4 : decode c_X10_add 4 = .ok (.getfield 133, 3) := by decide +kernel
theorem d_X10_add_7 : decode c_X10_add 7 = .ok (.if_icmp .ge 30, 3) := by decide +kernel
theorem d_X10_add_10 : decode c_X10_add 10 = .ok (.aload_n 0, 1) := by decide +kernel
theorem d_X10_add_11 : decode c_X10_add 11 = .ok (.getfield 65, 3) := by decide +kernel
theorem d_X10_add_14 : decode c_X10_add 14 = .ok (.iload_n 3, 1) := by decide +kernel
theorem d_X10_add_15 : decode c_X10_add 15 = .ok (.iaload, 1) := by decide +kernel
theorem d_X10_add_16 : decode c_X10_add 16 = .ok (.iload_n 1, 1) := by decide +kernel
theorem d_X10_add_17 : decode c_X10_add 17 = .ok (.if_icmp .ne 14, 3) := by decide +kernel
theorem d_X10_add_20 : decode c_X10_add 20 = .ok (.aload_n 0, 1) := by decide +kernel
theorem d_X10_add_21 : decode c_X10_add 21 = .ok (.getfield 68, 3) := by decide +kernel
theorem d_X10_add_24 : decode c_X10_add 24 = .ok (.iload_n 3, 1) := by decide +kernel
theorem d_X10_add_25 : decode c_X10_add 25 = .ok (.iaload, 1) := by decide +kernel
theorem d_X10_add_26 : decode c_X10_add 26 = .ok (.iload_n 2, 1) := by decide +kernel
theorem d_X10_add_27 : decode c_X10_add 27 = .ok (.if_icmp .ne 4, 3) := by decide +kernel
theorem d_X10_add_30 : decode c_X10_add 30 = .ok (.return_, 1) := by decide +kernel
theorem d_X10_add_31 : decode c_X10_add 31 = .ok (.iinc 3 1, 3) := by decide +kernel
theorem d_X10_add_34 : decode c_X10_add 34 = .ok (.goto (-32), 3) := by decide +kernel
theorem d_X10_add_37 : decode c_X10_add 37 = .ok (.aload_n 0, 1) := by decide +kernel
theorem d_X10_add_38 : decode c_X10_add 38 = .ok (.getfield 65, 3) := by decide +kernel
theorem d_X10_add_41 : decode c_X10_add 41 = .ok (.aload_n 0, 1) := by decide +kernel
theorem d_X10_add_42 : decode c_X10_add 42 = .ok (.getfield 133, 3) := by decide +kernel
theorem d_X10_add_45 : decode c_X10_add 45 = .ok (.iload_n 1, 1) := by decide +kernel
theorem d_X10_add_46 : decode c_X10_add 46 = .ok (.iastore, 1) := by decide +kernel
theorem d_X10_add_47 : decode c_X10_add 47 = .ok (.aload_n 0, 1) := by decide +kernel
theorem d_X10_add_48 : decode c_X10_add 48 = .ok (.getfield 68, 3) := by decide +kernel
theorem d_X10_add_51 : decode c_X10_add 51 = .ok (.aload_n 0, 1) := by decide +kernel
theorem d_X10_add_52 : decode c_X10_add 52 = .ok (.getfield 133, 3) := by decide +kernel
theorem d_X10_add_55 : decode c_X10_add 55 = .ok (.iload_n 2, 1) := by decide +kernel
theorem d_X10_add_56 : decode c_X10_add 56 = .ok (.iastore, 1) := by decide +kernel
theorem d_X10_add_57 : decode c_X10_add 57 = .ok (.aload_n 0, 1) := by decide +kernel
theorem d_X10_add_58 : decode c_X10_add 58 = .ok (.dup, 1) := by decide +kernel
theorem d_X10_add_59 : decode c_X10_add 59 = .ok (.getfield 133, 3) := by decide +kernel
theorem d_X10_add_62 : decode c_X10_add 62 = .ok (.iconst 1, 1) := by decide +kernel
theorem d_X10_add_63 : decode c_X10_add 63 = .ok (.iadd, 1) := by decide +kernel
theorem d_X10_add_64 : decode c_X10_add 64 = .ok (.putfield 133, 3) := by decide +kernel
theorem d_X10_add_67 : decode c_X10_add 67 = .ok (.return_, 1) := by decide +kernel
theorem d_X10_close_0 : decode c_X10_close 0 = .ok (.aload_n 0, 1) := by decide +kernel
theorem d_X10_close_1 : decode c_X10_close 1 = .ok (.iconst 0, 1) := by decide +kernel
theorem d_X10_close_2 : decode c_X10_close 2 = .ok (.putfield 133, 3) := by decide +kernel
theorem d_X10_close_5 : decode c_X10_close 5 = .ok (.iconst 0, 1) := by decide +kernel
theorem d_X10_close_6 : decode c_X10_close 6 = .ok (.istore_n 2, 1) := by decide +kernel
theorem d_X10_close_7 : decode c_X10_close 7 = .ok (.iload_n 2, 1) := by decide +kernel
theorem d_X10_close_8 : decode c_X10_close 8 = .ok (.aload_n 0, 1) := by decide +kernel
theorem d_X10_close_9 : decode c_X10_close 9 = .ok (.getfield 50, 3) := by decide +kernel
theorem d_X10_close_12 : decode c_X10_close 12 = .ok (.iload_n 1, 1) := by decide +kernel
theorem d_X10_close_13 : decode c_X10_close 13 = .ok (.iaload, 1) := by decide +kernel
theorem d_X10_close_14 : decode c_X10_close 14 = .ok (.if_icmp .ge 33, 3) := by decide +kernel
theorem d_X10_close_17 : decode c_X10_close 17 = .ok (.aload_n 0, 1) := by decide +kernel
theorem d_X10_close_18 : decode c_X10_close 18 = .ok (.aload_n 0, 1) := by decide +kernel
theorem d_X10_close_19 : decode c_X10_close 19 = .ok (.getfield 53, 3) := by decide +kernel
theorem d_X10_close_22 : decode c_X10_close 22 = .ok (.iconst 4, 1) := by decide +kernel
theorem d_X10_close_23 : decode c_X10_close 23 = .ok (.iload_n 1, 1) := by decide +kernel
theorem d_X10_close_24 : decode c_X10_close 24 = .ok (.imul, 1) := by decide +kernel
theorem d_X10_close_25 : decode c_X10_close 25 = .ok (.iload_n 2, 1) := by decide +kernel
theorem d_X10_close_26 : decode c_X10_close 26 = .ok (.iadd, 1) := by decide +kernel
theorem d_X10_close_27 : decode c_X10_close 27 = .ok (.iaload, 1) := by decide +kernel
theorem d_X10_close_28 : decode c_X10_close 28 = .ok (.aload_n 0, 1) := by decide +kernel
theorem d_X10_close_29 : decode c_X10_close 29 = .ok (.getfield 56, 3) := by decide +kernel
theorem d_X10_close_32 : decode c_X10_close 32 = .ok (.iconst 4, 1) := by decide +kernel
theorem d_X10_close_33 : decode c_X10_close 33 = .ok (.iload_n 1, 1) := by decide +kernel
theorem d_X10_close_34 : decode c_X10_close 34 = .ok (.imul, 1) := by decide +kernel
theorem d_X10_close_35 : decode c_X10_close 35 = .ok (.iload_n 2, 1) := by decide +kernel
theorem d_X10_close_36 : decode c_X10_close 36 = .ok (.iadd, 1) := by decide +kernel
theorem d_X10_close_37 : decode c_X10_close 37 = .ok (.iaload, 1) := by decide +kernel
theorem d_X10_close_38 : decode c_X10_close 38 = .ok (.invokevirtual 136, 3) := by decide +kernel
theorem d_X10_close_41 : decode c_X10_close 41 = .ok (.iinc 2 1, 3) := by decide +kernel
theorem d_X10_close_44 : decode c_X10_close 44 = .ok (.goto (-37), 3) := by decide +kernel
theorem d_X10_close_47 : decode c_X10_close 47 = .ok (.iconst 0, 1) := by decide +kernel
theorem d_X10_close_48 : decode c_X10_close 48 = .ok (.istore_n 2, 1) := by decide +kernel
theorem d_X10_close_49 : decode c_X10_close 49 = .ok (.iload_n 2, 1) := by decide +kernel
theorem d_X10_close_50 : decode c_X10_close 50 = .ok (.aload_n 0, 1) := by decide +kernel
theorem d_X10_close_51 : decode c_X10_close 51 = .ok (.getfield 133, 3) := by decide +kernel
theorem d_X10_close_54 : decode c_X10_close 54 = .ok (.if_icmp .ge 56, 3) := by decide +kernel
theorem d_X10_close_57 : decode c_X10_close 57 = .ok (.iconst 0, 1) := by decide +kernel
theorem d_X10_close_58 : decode c_X10_close 58 = .ok (.istore_n 3, 1) := by decide +kernel
theorem d_X10_close_59 : decode c_X10_close 59 = .ok (.iload_n 3, 1) := by decide +kernel
theorem d_X10_close_60 : decode c_X10_close 60 = .ok (.aload_n 0, 1) := by decide +kernel
theorem d_X10_close_61 : decode c_X10_close 61 = .ok (.getfield 100, 3) := by decide +kernel
theorem d_X10_close_64 : decode c_X10_close 64 = .ok (.if_icmp .ge 40, 3) := by decide +kernel
theorem d_X10_close_67 : decode c_X10_close 67 = .ok (.aload_n 0, 1) := by decide +kernel
theorem d_X10_close_68 : decode c_X10_close 68 = .ok (.getfield 13, 3) := by decide +kernel
theorem d_X10_close_71 : decode c_X10_close 71 = .ok (.iload_n 3, 1) := by decide +kernel
theorem d_X10_close_72 : decode c_X10_close 72 = .ok (.iaload, 1) := by decide +kernel
theorem d_X10_close_73 : decode c_X10_close 73 = .ok (.aload_n 0, 1) := by decide +kernel
theorem d_X10_close_74 : decode c_X10_close 74 = .ok (.getfield 65, 3) := by decide +kernel
theorem d_X10_close_77 : decode c_X10_close 77 = .ok (.iload_n 2, 1) := by decide +kernel
theorem d_X10_close_78 : decode c_X10_close 78 = .ok (.iaload, 1) := by decide +kernel
theorem d_X10_close_79 : decode c_X10_close 79 = .ok (.if_icmp .ne 19, 3) := by decide +kernel
theorem d_X10_close_82 : decode c_X10_close 82 = .ok (.aload_n 0, 1) := by decide +kernel
theorem d_X10_close_83 : decode c_X10_close 83 = .ok (.aload_n 0, 1) := by decide +kernel
theorem d_X10_close_84 : decode c_X10_close 84 = .ok (.getfield 17, 3) := by decide +kernel
theorem d_X10_close_87 : decode c_X10_close 87 = .ok (.iload_n 3, 1) := by decide +kernel
theorem d_X10_close_88 : decode c_X10_close 88 = .ok (.iaload, 1) := by decide +kernel
theorem d_X10_close_89 : decode c_X10_close 89 = .ok (.aload_n 0, 1) := by decide +kernel
theorem d_X10_close_90 : decode c_X10_close 90 = .ok (.getfield 20, 3) := by decide +kernel
theorem d_X10_close_93 : decode c_X10_close 93 = .ok (.iload_n 3, 1) := by decide +kernel
theorem d_X10_close_94 : decode c_X10_close 94 = .ok (.iaload, 1) := by decide +kernel
theorem d_X10_close_95 : decode c_X10_close 95 = .ok (.invokevirtual 136, 3) := by decide +kernel
theorem d_X10_close_98 : decode c_X10_close 98 = .ok (.iinc 3 1, 3) := by decide +kernel
theorem d_X10_close_101 : decode c_X10_close 101 = .ok (.goto (-42), 3) := by decide +kernel
theorem d_X10_close_104 : decode c_X10_close 104 = .ok (.iinc 2 1, 3) := by decide +kernel
theorem d_X10_close_107 : decode c_X10_close 107 = .ok (.goto (-58), 3) := by decide +kernel
theorem d_X10_close_110 : decode c_X10_close 110 = .ok (.return_, 1) := by decide +kernel
theorem d_X10_conflict_0 : decode c_X10_conflict 0 = .ok (.aload_n 0, 1) := by decide +kernel
theorem d_X10_conflict_1 : decode c_X10_conflict 1 = .ok (.iload_n 1, 1) := by decide +kernel
theorem d_X10_conflict_2 : decode c_X10_conflict 2 = .ok (.invokevirtual 140, 3) := by decide +kernel
theorem d_X10_conflict_5 : decode c_X10_conflict 5 = .ok (.iconst 0, 1) := by decide +kernel
theorem d_X10_conflict_6 : decode c_X10_conflict 6 = .ok (.istore_n 2, 1) := by decide +kernel
theorem d_X10_conflict_7 : decode c_X10_conflict 7 = .ok (.iconst 0, 1) := by decide +kernel
theorem d_X10_conflict_8 : decode c_X10_conflict 8 = .ok (.istore_n 3, 1) := by decide +kernel
theorem d_X10_conflict_9 : decode c_X10_conflict 9 = .ok (.iload_n 3, 1) := by decide +kernel
theorem d_X10_conflict_10 : decode c_X10_conflict 10 = .ok (.aload_n 0, 1) := by decide +kernel
theorem d_X10_conflict_11 : decode c_X10_conflict 11 = .ok (.getfield 133, 3) := by decide +kernel
theorem d_X10_conflict_14 : decode c_X10_conflict 14 = .ok (.if_icmp .ge 50, 3) := by decide +kernel
theorem d_X10_conflict_17 : decode c_X10_conflict 17 = .ok (.iconst 0, 1) := by decide +kernel
theorem d_X10_conflict_18 : decode c_X10_conflict 18 = .ok (.istore 4, 2) := by decide +kernel
theorem d_X10_conflict_20 : decode c_X10_conflict 20 = .ok (.iload 4, 2) := by decide +kernel
theorem d_X10_conflict_22 : decode c_X10_conflict 22 = .ok (.iload_n 3, 1) := by decide +kernel
theorem d_X10_conflict_23 : decode c_X10_conflict 23 = .ok (.if_icmp .ge 35, 3) := by decide +kernel
theorem d_X10_conflict_26 : decode c_X10_conflict 26 = .ok (.iload_n 2, 1) := by decide +kernel
theorem d_X10_conflict_27 : decode c_X10_conflict 27 = .ok (.ifCond .ne 19, 3) := by decide +kernel
theorem d_X10_conflict_30 : decode c_X10_conflict 30 = .ok (.aload_n 0, 1) := by decide +kernel
theorem d_X10_conflict_31 : decode c_X10_conflict 31 = .ok (.getfield 65, 3) := by decide +kernel
theorem d_X10_conflict_34 : decode c_X10_conflict 34 = .ok (.iload 4, 2) := by decide +kernel
theorem d_X10_conflict_36 : decode c_X10_conflict 36 = .ok (.iaload, 1) := by decide +kernel
theorem d_X10_conflict_37 : decode c_X10_conflict 37 = .ok (.aload_n 0, 1) := by decide +kernel
theorem d_X10_conflict_38 : decode c_X10_conflict 38 = .ok (.getfield 65, 3) := by decide +kernel
theorem d_X10_conflict_41 : decode c_X10_conflict 41 = .ok (.iload_n 3, 1) := by decide +kernel
theorem d_X10_conflict_42 : decode c_X10_conflict 42 = .ok (.iaload, 1) := by decide +kernel
theorem d_X10_conflict_43 : decode c_X10_conflict 43 = .ok (.if_icmp .ne 7, 3) := by decide +kernel
theorem d_X10_conflict_46 : decode c_X10_conflict 46 = .ok (.iconst 1, 1) := by decide +kernel
theorem d_X10_conflict_47 : decode c_X10_conflict 47 = .ok (.goto 4, 3) := by decide +kernel
theorem d_X10_conflict_50 : decode c_X10_conflict 50 = .ok (.iconst 0, 1) := by decide +kernel
theorem d_X10_conflict_51 : decode c_X10_conflict 51 = .ok (.istore_n 2, 1) := by decide +kernel
theorem d_X10_conflict_52 : decode c_X10_conflict 52 = .ok (.iinc 4 1, 3) := by decide +kernel
theorem d_X10_conflict_55 : decode c_X10_conflict 55 = .ok (.goto (-35), 3) := by decide +kernel
theorem d_X10_conflict_58 : decode c_X10_conflict 58 = .ok (.iinc 3 1, 3) := by decide +kernel
theorem d_X10_conflict_61 : decode c_X10_conflict 61 = .ok (.goto (-52), 3) := by decide +kernel
theorem d_X10_conflict_64 : decode c_X10_conflict 64 = .ok (.iload_n 2, 1) := by decide +kernel
theorem d_X10_conflict_65 : decode c_X10_conflict 65 = .ok (.ireturn, 1) := by decide +kernel
theorem d_X10_takeOver_0 : decode c_X10_takeOver 0 = .ok (.iconst 0, 1) := by decide +kernel
theorem d_X10_takeOver_1 : decode c_X10_takeOver 1 = .ok (.istore_n 2, 1) := by decide +kernel
theorem d_X10_takeOver_2 : decode c_X10_takeOver 2 = .ok (.iload_n 2, 1) := by decide +kernel
theorem d_X10_takeOver_3 : decode c_X10_takeOver 3 = .ok (.aload_n 0, 1) := by decide +kernel
theorem d_X10_takeOver_4 : decode c_X10_takeOver 4 = .ok (.getfield 133, 3) := by decide +kernel
theorem d_X10_takeOver_7 : decode c_X10_takeOver 7 = .ok (.if_icmp .ge 96, 3) := by decide +kernel
theorem d_X10_takeOver_10 : decode c_X10_takeOver 10 = .ok (.iconst 0, 1) := by decide +kernel
theorem d_X10_takeOver_11 : decode c_X10_takeOver 11 = .ok (.istore_n 3, 1) := by decide +kernel
theorem d_X10_takeOver_12 : decode c_X10_takeOver 12 = .ok (.iconst 0, 1) := by decide +kernel
theorem d_X10_takeOver_13 : decode c_X10_takeOver 13 = .ok (.istore 4, 2) := by decide +kernel
theorem d_X10_takeOver_15 : decode c_X10_takeOver 15 = .ok (.iload 4, 2) := by decide +kernel
theorem d_X10_takeOver_17 : decode c_X10_takeOver 17 = .ok (.iload_n 1, 1) := by decide +kernel
theorem d_X10_takeOver_18 : decode c_X10_takeOver 18 = .ok (.if_icmp .ge 35, 3) := by decide +kernel
theorem d_X10_takeOver_21 : decode c_X10_takeOver 21 = .ok (.iload_n 3, 1) := by decide +kernel
theorem d_X10_takeOver_22 : decode c_X10_takeOver 22 = .ok (.ifCond .ne 19, 3) := by decide +kernel
theorem d_X10_takeOver_25 : decode c_X10_takeOver 25 = .ok (.aload_n 0, 1) := by decide +kernel
theorem d_X10_takeOver_26 : decode c_X10_takeOver 26 = .ok (.getfield 71, 3) := by decide +kernel
theorem d_X10_takeOver_29 : decode c_X10_takeOver 29 = .ok (.iload 4, 2) := by decide +kernel
theorem d_X10_takeOver_31 : decode c_X10_takeOver 31 = .ok (.iaload, 1) := by decide +kernel
theorem d_X10_takeOver_32 : decode c_X10_takeOver 32 = .ok (.aload_n 0, 1) := by decide +kernel
theorem d_X10_takeOver_33 : decode c_X10_takeOver 33 = .ok (.getfield 65, 3) := by decide +kernel
theorem d_X10_takeOver_36 : decode c_X10_takeOver 36 = .ok (.iload_n 2, 1) := by decide +kernel
theorem d_X10_takeOver_37 : decode c_X10_takeOver 37 = .ok (.iaload, 1) := by decide +kernel
theorem d_X10_takeOver_38 : decode c_X10_takeOver 38 = .ok (.if_icmp .ne 7, 3) := by decide +kernel
theorem d_X10_takeOver_41 : decode c_X10_takeOver 41 = .ok (.iconst 1, 1) := by decide +kernel
theorem d_X10_takeOver_42 : decode c_X10_takeOver 42 = .ok (.goto 4, 3) := by decide +kernel
theorem d_X10_takeOver_45 : decode c_X10_takeOver 45 = .ok (.iconst 0, 1) := by decide +kernel
theorem d_X10_takeOver_46 : decode c_X10_takeOver 46 = .ok (.istore_n 3, 1) := by decide +kernel
theorem d_X10_takeOver_47 : decode c_X10_takeOver 47 = .ok (.iinc 4 1, 3) := by decide +kernel
theorem d_X10_takeOver_50 : decode c_X10_takeOver 50 = .ok (.goto (-35), 3) := by decide +kernel
theorem d_X10_takeOver_53 : decode c_X10_takeOver 53 = .ok (.iload_n 3, 1) := by decide +kernel
theorem d_X10_takeOver_54 : decode c_X10_takeOver 54 = .ok (.ifCond .ne 43, 3) := by decide +kernel
theorem d_X10_takeOver_57 : decode c_X10_takeOver 57 = .ok (.aload_n 0, 1) := by decide +kernel
theorem d_X10_takeOver_58 : decode c_X10_takeOver 58 = .ok (.getfield 71, 3) := by decide +kernel
theorem d_X10_takeOver_61 : decode c_X10_takeOver 61 = .ok (.aload_n 0, 1) := by decide +kernel
theorem d_X10_takeOver_62 : decode c_X10_takeOver 62 = .ok (.getfield 144, 3) := by decide +kernel
theorem d_X10_takeOver_65 : decode c_X10_takeOver 65 = .ok (.aload_n 0, 1) := by decide +kernel
theorem d_X10_takeOver_66 : decode c_X10_takeOver 66 = .ok (.getfield 65, 3) := by decide +kernel
theorem d_X10_takeOver_69 : decode c_X10_takeOver 69 = .ok (.iload_n 2, 1) := by decide +kernel
theorem d_X10_takeOver_70 : decode c_X10_takeOver 70 = .ok (.iaload, 1) := by decide +kernel
theorem d_X10_takeOver_71 : decode c_X10_takeOver 71 = .ok (.iastore, 1) := by decide +kernel
theorem d_X10_takeOver_72 : decode c_X10_takeOver 72 = .ok (.aload_n 0, 1) := by decide +kernel
theorem d_X10_takeOver_73 : decode c_X10_takeOver 73 = .ok (.getfield 74, 3) := by decide +kernel
theorem d_X10_takeOver_76 : decode c_X10_takeOver 76 = .ok (.aload_n 0, 1) := by decide +kernel
theorem d_X10_takeOver_77 : decode c_X10_takeOver 77 = .ok (.getfield 144, 3) := by decide +kernel
theorem d_X10_takeOver_80 : decode c_X10_takeOver 80 = .ok (.aload_n 0, 1) := by decide +kernel
theorem d_X10_takeOver_81 : decode c_X10_takeOver 81 = .ok (.getfield 68, 3) := by decide +kernel
theorem d_X10_takeOver_84 : decode c_X10_takeOver 84 = .ok (.iload_n 2, 1) := by decide +kernel
theorem d_X10_takeOver_85 : decode c_X10_takeOver 85 = .ok (.iaload, 1) := by decide +kernel
theorem d_X10_takeOver_86 : decode c_X10_takeOver 86 = .ok (.iastore, 1) := by decide +kernel
theorem d_X10_takeOver_87 : decode c_X10_takeOver 87 = .ok (.aload_n 0, 1) := by decide +kernel
theorem d_X10_takeOver_88 : decode c_X10_takeOver 88 = .ok (.dup, 1) := by decide +kernel
theorem d_X10_takeOver_89 : decode c_X10_takeOver 89 = .ok (.getfield 144, 3) := by decide +kernel
theorem d_X10_takeOver_92 : decode c_X10_takeOver 92 = .ok (.iconst 1, 1) := by decide +kernel
theorem d_X10_takeOver_93 : decode c_X10_takeOver 93 = .ok (.iadd, 1) := by decide +kernel
theorem d_X10_takeOver_94 : decode c_X10_takeOver 94 = .ok (.putfield 144, 3) := by decide +kernel
theorem d_X10_takeOver_97 : decode c_X10_takeOver 97 = .ok (.iinc 2 1, 3) := by decide +kernel
theorem d_X10_takeOver_100 : decode c_X10_takeOver 100 = .ok (.goto (-98), 3) := by decide +kernel
theorem d_X10_takeOver_103 : decode c_X10_takeOver 103 = .ok (.return_, 1) := by decide +kernel
theorem d_X10_force_0 : decode c_X10_force 0 = .ok (.aload_n 0, 1) := by decide +kernel
theorem d_X10_force_1 : decode c_X10_force 1 = .ok (.iconst 0, 1) := by decide +kernel
theorem d_X10_force_2 : decode c_X10_force 2 = .ok (.putfield 144, 3) := by decide +kernel
theorem d_X10_force_5 : decode c_X10_force 5 = .ok (.iload_n 2, 1) := by decide +kernel
theorem d_X10_force_6 : decode c_X10_force 6 = .ok (.iconst 4, 1) := by decide +kernel
theorem d_X10_force_7 : decode c_X10_force 7 = .ok (.if_icmp .ge 17, 3) := by decide +kernel
theorem d_X10_force_10 : decode c_X10_force 10 = .ok (.aload_n 0, 1) := by decide +kernel
theorem d_X10_force_11 : decode c_X10_force 11 = .ok (.iload_n 1, 1) := by decide +kernel
theorem d_X10_force_12 : decode c_X10_force 12 = .ok (.iload_n 2, 1) := by decide +kernel
theorem d_X10_force_13 : decode c_X10_force 13 = .ok (.invokestatic 129, 3) := by decide +kernel
theorem d_X10_force_16 : decode c_X10_force 16 = .ok (.invokevirtual 140, 3) := by decide +kernel
theorem d_X10_force_19 : decode c_X10_force 19 = .ok (.aload_n 0, 1) := by decide +kernel
theorem d_X10_force_20 : decode c_X10_force 20 = .ok (.iconst 0, 1) := by decide +kernel
theorem d_X10_force_21 : decode c_X10_force 21 = .ok (.invokevirtual 147, 3) := by decide +kernel
theorem d_X10_force_24 : decode c_X10_force 24 = .ok (.aload_n 0, 1) := by decide +kernel
theorem d_X10_force_25 : decode c_X10_force 25 = .ok (.iload_n 1, 1) := by decide +kernel
theorem d_X10_force_26 : decode c_X10_force 26 = .ok (.iconst (-1), 1) := by decide +kernel
theorem d_X10_force_27 : decode c_X10_force 27 = .ok (.invokestatic 129, 3) := by decide +kernel
theorem d_X10_force_30 : decode c_X10_force 30 = .ok (.invokevirtual 140, 3) := by decide +kernel
theorem d_X10_force_33 : decode c_X10_force 33 = .ok (.aload_n 0, 1) := by decide +kernel
theorem d_X10_force_34 : decode c_X10_force 34 = .ok (.aload_n 0, 1) := by decide +kernel
theorem d_X10_force_35 : decode c_X10_force 35 = .ok (.getfield 144, 3) := by decide +kernel
theorem d_X10_force_38 : decode c_X10_force 38 = .ok (.invokevirtual 147, 3) := by decide +kernel
theorem d_X10_force_41 : decode c_X10_force 41 = .ok (.return_, 1) := by decide +kernel
theorem d_X10_isBound_0 : decode c_X10_isBound 0 = .ok (.aload_n 0, 1) := by decide +kernel
theorem d_X10_isBound_1 : decode c_X10_isBound 1 = .ok (.getfield 23, 3) := by decide +kernel
theorem d_X10_isBound_4 : decode c_X10_isBound 4 = .ok (.iload_n 1, 1) := by decide +kernel
theorem d_X10_isBound_5 : decode c_X10_isBound 5 = .ok (.iaload, 1) := by decide +kernel
theorem d_X10_isBound_6 : decode c_X10_isBound 6 = .ok (.ifCond .eq 12, 3) := by decide +kernel
theorem d_X10_isBound_9 : decode c_X10_isBound 9 = .ok (.aload_n 0, 1) := by decide +kernel
theorem d_X10_isBound_10 : decode c_X10_isBound 10 = .ok (.getfield 50, 3) := by decide +kernel
theorem d_X10_isBound_13 : decode c_X10_isBound 13 = .ok (.iload_n 1, 1) := by decide +kernel
theorem d_X10_isBound_14 : decode c_X10_isBound 14 = .ok (.iaload, 1) := by decide +kernel
theorem d_X10_isBound_15 : decode c_X10_isBound 15 = .ok (.ifCond .ne 5, 3) := by decide +kernel
theorem d_X10_isBound_18 : decode c_X10_isBound 18 = .ok (.iconst 0, 1) := by decide +kernel
theorem d_X10_isBound_19 : decode c_X10_isBound 19 = .ok (.ireturn, 1) := by decide +kernel
theorem d_X10_isBound_20 : decode c_X10_isBound 20 = .ok (.aload_n 0, 1) := by decide +kernel
theorem d_X10_isBound_21 : decode c_X10_isBound 21 = .ok (.iload_n 1, 1) := by decide +kernel
theorem d_X10_isBound_22 : decode c_X10_isBound 22 = .ok (.invokevirtual 140, 3) := by decide +kernel
theorem d_X10_isBound_25 : decode c_X10_isBound 25 = .ok (.iconst 0, 1) := by decide +kernel
theorem d_X10_isBound_26 : decode c_X10_isBound 26 = .ok (.istore_n 2, 1) := by decide +kernel
theorem d_X10_isBound_27 : decode c_X10_isBound 27 = .ok (.iload_n 2, 1) := by decide +kernel
theorem d_X10_isBound_28 : decode c_X10_isBound 28 = .ok (.aload_n 0, 1) := by decide +kernel
theorem d_X10_isBound_29 : decode c_X10_isBound 29 = .ok (.getfield 133, 3) := by decide +kernel
theorem d_X10_isBound_32 : decode c_X10_isBound 32 = .ok (.if_icmp .ge 77, 3) := by decide +kernel
theorem d_X10_isBound_35 : decode c_X10_isBound 35 = .ok (.iconst 0, 1) := by decide +kernel
theorem d_X10_isBound_36 : decode c_X10_isBound 36 = .ok (.istore_n 3, 1) := by decide +kernel
theorem d_X10_isBound_37 : decode c_X10_isBound 37 = .ok (.iconst 0, 1) := by decide +kernel
theorem d_X10_isBound_38 : decode c_X10_isBound 38 = .ok (.istore 4, 2) := by decide +kernel
theorem d_X10_isBound_40 : decode c_X10_isBound 40 = .ok (.iload 4, 2) := by decide +kernel
theorem d_X10_isBound_42 : decode c_X10_isBound 42 = .ok (.aload_n 0, 1) := by decide +kernel
theorem d_X10_isBound_43 : decode c_X10_isBound 43 = .ok (.getfield 144, 3) := by decide +kernel
theorem d_X10_isBound_46 : decode c_X10_isBound 46 = .ok (.if_icmp .ge 51, 3) := by decide +kernel
theorem d_X10_isBound_49 : decode c_X10_isBound 49 = .ok (.iload_n 3, 1) := by decide +kernel
theorem d_X10_isBound_50 : decode c_X10_isBound 50 = .ok (.ifCond .ne 35, 3) := by decide +kernel
theorem d_X10_isBound_53 : decode c_X10_isBound 53 = .ok (.aload_n 0, 1) := by decide +kernel
theorem d_X10_isBound_54 : decode c_X10_isBound 54 = .ok (.getfield 71, 3) := by decide +kernel
theorem d_X10_isBound_57 : decode c_X10_isBound 57 = .ok (.iload 4, 2) := by decide +kernel
theorem d_X10_isBound_59 : decode c_X10_isBound 59 = .ok (.iaload, 1) := by decide +kernel
theorem d_X10_isBound_60 : decode c_X10_isBound 60 = .ok (.aload_n 0, 1) := by decide +kernel
theorem d_X10_isBound_61 : decode c_X10_isBound 61 = .ok (.getfield 65, 3) := by decide +kernel
theorem d_X10_isBound_64 : decode c_X10_isBound 64 = .ok (.iload_n 2, 1) := by decide +kernel
theorem d_X10_isBound_65 : decode c_X10_isBound 65 = .ok (.iaload, 1) := by decide +kernel
theorem d_X10_isBound_66 : decode c_X10_isBound 66 = .ok (.if_icmp .ne 23, 3) := by decide +kernel
theorem d_X10_isBound_69 : decode c_X10_isBound 69 = .ok (.aload_n 0, 1) := by decide +kernel
theorem d_X10_isBound_70 : decode c_X10_isBound 70 = .ok (.getfield 74, 3) := by decide +kernel
theorem d_X10_isBound_73 : decode c_X10_isBound 73 = .ok (.iload 4, 2) := by decide +kernel
theorem d_X10_isBound_75 : decode c_X10_isBound 75 = .ok (.iaload, 1) := by decide +kernel
theorem d_X10_isBound_76 : decode c_X10_isBound 76 = .ok (.aload_n 0, 1) := by decide +kernel
theorem d_X10_isBound_77 : decode c_X10_isBound 77 = .ok (.getfield 68, 3) := by decide +kernel
theorem d_X10_isBound_80 : decode c_X10_isBound 80 = .ok (.iload_n 2, 1) := by decide +kernel
theorem d_X10_isBound_81 : decode c_X10_isBound 81 = .ok (.iaload, 1) := by decide +kernel
theorem d_X10_isBound_82 : decode c_X10_isBound 82 = .ok (.if_icmp .ne 7, 3) := by decide +kernel
theorem d_X10_isBound_85 : decode c_X10_isBound 85 = .ok (.iconst 1, 1) := by decide +kernel
theorem d_X10_isBound_86 : decode c_X10_isBound 86 = .ok (.goto 4, 3) := by decide +kernel
theorem d_X10_isBound_89 : decode c_X10_isBound 89 = .ok (.iconst 0, 1) := by decide +kernel
theorem d_X10_isBound_90 : decode c_X10_isBound 90 = .ok (.istore_n 3, 1) := by decide +kernel
theorem d_X10_isBound_91 : decode c_X10_isBound 91 = .ok (.iinc 4 1, 3) := by decide +kernel
theorem d_X10_isBound_94 : decode c_X10_isBound 94 = .ok (.goto (-54), 3) := by decide +kernel
theorem d_X10_isBound_97 : decode c_X10_isBound 97 = .ok (.iload_n 3, 1) := by decide +kernel
theorem d_X10_isBound_98 : decode c_X10_isBound 98 = .ok (.ifCond .ne 5, 3) := by decide +kernel
theorem d_X10_isBound_101 : decode c_X10_isBound 101 = .ok (.iconst 0, 1) := by decide +kernel
theorem d_X10_isBound_102 : decode c_X10_isBound 102 = .ok (.ireturn, 1) := by decide +kernel
theorem d_X10_isBound_103 : decode c_X10_isBound 103 = .ok (.iinc 2 1, 3) := by decide +kernel
theorem d_X10_isBound_106 : decode c_X10_isBound 106 = .ok (.goto (-79), 3) := by decide +kernel
theorem d_X10_isBound_109 : decode c_X10_isBound 109 = .ok (.iconst 1, 1) := by decide +kernel
theorem d_X10_isBound_110 : decode c_X10_isBound 110 = .ok (.ireturn, 1) := by decide +kernel
theorem d_X10_link_0 : decode c_X10_link 0 = .ok (.aload_n 0, 1) := by decide +kernel
theorem d_X10_link_1 : decode c_X10_link 1 = .ok (.getfield 26, 3) := by decide +kernel
theorem d_X10_link_4 : decode c_X10_link 4 = .ok (.iload_n 1, 1) := by decide +kernel
theorem d_X10_link_5 : decode c_X10_link 5 = .ok (.iaload, 1) := by decide +kernel
theorem d_X10_link_6 : decode c_X10_link 6 = .ok (.iload_n 2, 1) := by decide +kernel
theorem d_X10_link_7 : decode c_X10_link 7 = .ok (.iand, 1) := by decide +kernel
theorem d_X10_link_8 : decode c_X10_link 8 = .ok (.ifCond .eq 23, 3) := by decide +kernel
theorem d_X10_link_11 : decode c_X10_link 11 = .ok (.aload_n 0, 1) := by decide +kernel
theorem d_X10_link_12 : decode c_X10_link 12 = .ok (.getfield 77, 3) := by decide +kernel
theorem d_X10_link_15 : decode c_X10_link 15 = .ok (.aload_n 0, 1) := by decide +kernel
theorem d_X10_link_16 : decode c_X10_link 16 = .ok (.getfield 150, 3) := by decide +kernel
theorem d_X10_link_19 : decode c_X10_link 19 = .ok (.iload_n 1, 1) := by decide +kernel
theorem d_X10_link_20 : decode c_X10_link 20 = .ok (.iastore, 1) := by decide +kernel
theorem d_X10_link_21 : decode c_X10_link 21 = .ok (.aload_n 0, 1) := by decide +kernel
theorem d_X10_link_22 : decode c_X10_link 22 = .ok (.dup, 1) := by decide +kernel
theorem d_X10_link_23 : decode c_X10_link 23 = .ok (.getfield 150, 3) := by decide +kernel
theorem d_X10_link_26 : decode c_X10_link 26 = .ok (.iconst 1, 1) := by decide +kernel
theorem d_X10_link_27 : decode c_X10_link 27 = .ok (.iadd, 1) := by decide +kernel
theorem d_X10_link_28 : decode c_X10_link 28 = .ok (.putfield 150, 3) := by decide +kernel
theorem d_X10_link_31 : decode c_X10_link 31 = .ok (.return_, 1) := by decide +kernel
theorem d_X10_linkList_0 : decode c_X10_linkList 0 = .ok (.iconst 0, 1) := by decide +kernel
theorem d_X10_linkList_1 : decode c_X10_linkList 1 = .ok (.istore_n 3, 1) := by decide +kernel
theorem d_X10_linkList_2 : decode c_X10_linkList 2 = .ok (.iload_n 3, 1) := by decide +kernel
theorem d_X10_linkList_3 : decode c_X10_linkList 3 = .ok (.aload_n 0, 1) := by decide +kernel
theorem d_X10_linkList_4 : decode c_X10_linkList 4 = .ok (.getfield 59, 3) := by decide +kernel
theorem d_X10_linkList_7 : decode c_X10_linkList 7 = .ok (.iload_n 1, 1) := by decide +kernel
theorem d_X10_linkList_8 : decode c_X10_linkList 8 = .ok (.iaload, 1) := by decide +kernel
theorem d_X10_linkList_9 : decode c_X10_linkList 9 = .ok (.if_icmp .ge 24, 3) := by decide +kernel
theorem d_X10_linkList_12 : decode c_X10_linkList 12 = .ok (.aload_n 0, 1) := by decide +kernel
theorem d_X10_linkList_13 : decode c_X10_linkList 13 = .ok (.aload_n 0, 1) := by decide +kernel
theorem d_X10_linkList_14 : decode c_X10_linkList 14 = .ok (.getfield 62, 3) := by decide +kernel
theorem d_X10_linkList_17 : decode c_X10_linkList 17 = .ok (.iconst 4, 1) := by decide +kernel
theorem d_X10_linkList_18 : decode c_X10_linkList 18 = .ok (.iload_n 1, 1) := by decide +kernel
theorem d_X10_linkList_19 : decode c_X10_linkList 19 = .ok (.imul, 1) := by decide +kernel
theorem d_X10_linkList_20 : decode c_X10_linkList 20 = .ok (.iload_n 3, 1) := by decide +kernel
theorem d_X10_linkList_21 : decode c_X10_linkList 21 = .ok (.iadd, 1) := by decide +kernel
theorem d_X10_linkList_22 : decode c_X10_linkList 22 = .ok (.iaload, 1) := by decide +kernel
theorem d_X10_linkList_23 : decode c_X10_linkList 23 = .ok (.iload_n 2, 1) := by decide +kernel
theorem d_X10_linkList_24 : decode c_X10_linkList 24 = .ok (.invokevirtual 153, 3) := by decide +kernel
theorem d_X10_linkList_27 : decode c_X10_linkList 27 = .ok (.iinc 3 1, 3) := by decide +kernel
theorem d_X10_linkList_30 : decode c_X10_linkList 30 = .ok (.goto (-28), 3) := by decide +kernel
theorem d_X10_linkList_33 : decode c_X10_linkList 33 = .ok (.return_, 1) := by decide +kernel
theorem d_X10_build_0 : decode c_X10_build 0 = .ok (.iload_n 2, 1) := by decide +kernel
theorem d_X10_build_1 : decode c_X10_build 1 = .ok (.iconst 4, 1) := by decide +kernel
theorem d_X10_build_2 : decode c_X10_build 2 = .ok (.if_icmp .ge 7, 3) := by decide +kernel
theorem d_X10_build_5 : decode c_X10_build 5 = .ok (.iconst 1, 1) := by decide +kernel
theorem d_X10_build_6 : decode c_X10_build 6 = .ok (.goto 8, 3) := by decide +kernel
theorem d_X10_build_9 : decode c_X10_build 9 = .ok (.iconst 1, 1) := by decide +kernel
theorem d_X10_build_10 : decode c_X10_build 10 = .ok (.iload_n 2, 1) := by decide +kernel
theorem d_X10_build_11 : decode c_X10_build 11 = .ok (.iconst 3, 1) := by decide +kernel
theorem d_X10_build_12 : decode c_X10_build 12 = .ok (.isub, 1) := by decide +kernel
theorem d_X10_build_13 : decode c_X10_build 13 = .ok (.ishl, 1) := by decide +kernel
theorem d_X10_build_14 : decode c_X10_build 14 = .ok (.istore_n 3, 1) := by decide +kernel
theorem d_X10_build_15 : decode c_X10_build 15 = .ok (.aload_n 0, 1) := by decide +kernel
theorem d_X10_build_16 : decode c_X10_build 16 = .ok (.iconst 0, 1) := by decide +kernel
theorem d_X10_build_17 : decode c_X10_build 17 = .ok (.putfield 150, 3) := by decide +kernel
theorem d_X10_build_20 : decode c_X10_build 20 = .ok (.iload_n 2, 1) := by decide +kernel
theorem d_X10_build_21 : decode c_X10_build 21 = .ok (.iconst 4, 1) := by decide +kernel
theorem d_X10_build_22 : decode c_X10_build 22 = .ok (.if_icmp .ge 18, 3) := by decide +kernel
theorem d_X10_build_25 : decode c_X10_build 25 = .ok (.aload_n 0, 1) := by decide +kernel
theorem d_X10_build_26 : decode c_X10_build 26 = .ok (.getfield 47, 3) := by decide +kernel
theorem d_X10_build_29 : decode c_X10_build 29 = .ok (.iconst 4, 1) := by decide +kernel
theorem d_X10_build_30 : decode c_X10_build 30 = .ok (.iload_n 1, 1) := by decide +kernel
theorem d_X10_build_31 : decode c_X10_build 31 = .ok (.imul, 1) := by decide +kernel
theorem d_X10_build_32 : decode c_X10_build 32 = .ok (.iload_n 2, 1) := by decide +kernel
theorem d_X10_build_33 : decode c_X10_build 33 = .ok (.iadd, 1) := by decide +kernel
theorem d_X10_build_34 : decode c_X10_build 34 = .ok (.iaload, 1) := by decide +kernel
theorem d_X10_build_35 : decode c_X10_build 35 = .ok (.iconst 2, 1) := by decide +kernel
theorem d_X10_build_36 : decode c_X10_build 36 = .ok (.iand, 1) := by decide +kernel
theorem d_X10_build_37 : decode c_X10_build 37 = .ok (.ifCond .ne 12, 3) := by decide +kernel
theorem d_X10_build_40 : decode c_X10_build 40 = .ok (.aload_n 0, 1) := by decide +kernel
theorem d_X10_build_41 : decode c_X10_build 41 = .ok (.bipush 8, 2) := by decide +kernel
theorem d_X10_build_43 : decode c_X10_build 43 = .ok (.iload_n 1, 1) := by decide +kernel
theorem d_X10_build_44 : decode c_X10_build 44 = .ok (.iadd, 1) := by decide +kernel
theorem d_X10_build_45 : decode c_X10_build 45 = .ok (.iload_n 3, 1) := by decide +kernel
theorem d_X10_build_46 : decode c_X10_build 46 = .ok (.invokevirtual 156, 3) := by decide +kernel
theorem d_X10_build_49 : decode c_X10_build 49 = .ok (.iload_n 2, 1) := by decide +kernel
theorem d_X10_build_50 : decode c_X10_build 50 = .ok (.iconst 4, 1) := by decide +kernel
theorem d_X10_build_51 : decode c_X10_build 51 = .ok (.if_icmp .ge 16, 3) := by decide +kernel
theorem d_X10_build_54 : decode c_X10_build 54 = .ok (.aload_n 0, 1) := by decide +kernel
theorem d_X10_build_55 : decode c_X10_build 55 = .ok (.bipush 12, 2) := by decide +kernel
theorem d_X10_build_57 : decode c_X10_build 57 = .ok (.iconst 4, 1) := by decide +kernel
theorem d_X10_build_58 : decode c_X10_build 58 = .ok (.iload_n 1, 1) := by decide +kernel
theorem d_X10_build_59 : decode c_X10_build 59 = .ok (.imul, 1) := by decide +kernel
theorem d_X10_build_60 : decode c_X10_build 60 = .ok (.iadd, 1) := by decide +kernel
theorem d_X10_build_61 : decode c_X10_build 61 = .ok (.iload_n 2, 1) := by decide +kernel
theorem d_X10_build_62 : decode c_X10_build 62 = .ok (.iadd, 1) := by decide +kernel
theorem d_X10_build_63 : decode c_X10_build 63 = .ok (.iload_n 3, 1) := by decide +kernel
theorem d_X10_build_64 : decode c_X10_build 64 = .ok (.invokevirtual 156, 3) := by decide +kernel
theorem d_X10_build_67 : decode c_X10_build 67 = .ok (.aload_n 0, 1) := by decide +kernel
theorem d_X10_build_68 : decode c_X10_build 68 = .ok (.iload_n 1, 1) := by decide +kernel
theorem d_X10_build_69 : decode c_X10_build 69 = .ok (.iload_n 2, 1) := by decide +kernel
theorem d_X10_build_70 : decode c_X10_build 70 = .ok (.invokevirtual 159, 3) := by decide +kernel
theorem d_X10_build_73 : decode c_X10_build 73 = .ok (.iconst 1, 1) := by decide +kernel
theorem d_X10_build_74 : decode c_X10_build 74 = .ok (.istore 4, 2) := by decide +kernel
theorem d_X10_build_76 : decode c_X10_build 76 = .ok (.iload 4, 2) := by decide +kernel
theorem d_X10_build_78 : decode c_X10_build 78 = .ok (.bipush 9, 2) := by decide +kernel
theorem d_X10_build_80 : decode c_X10_build 80 = .ok (.if_icmp .gt 55, 3) := by decide +kernel
theorem d_X10_build_83 : decode c_X10_build 83 = .ok (.iconst 0, 1) := by decide +kernel
theorem d_X10_build_84 : decode c_X10_build 84 = .ok (.istore 5, 2) := by decide +kernel
theorem d_X10_build_86 : decode c_X10_build 86 = .ok (.iload 5, 2) := by decide +kernel
theorem d_X10_build_88 : decode c_X10_build 88 = .ok (.aload_n 0, 1) := by decide +kernel
theorem d_X10_build_89 : decode c_X10_build 89 = .ok (.getfield 103, 3) := by decide +kernel
theorem d_X10_build_92 : decode c_X10_build 92 = .ok (.if_icmp .ge 37, 3) := by decide +kernel
theorem d_X10_build_95 : decode c_X10_build 95 = .ok (.aload_n 0, 1) := by decide +kernel
theorem d_X10_build_96 : decode c_X10_build 96 = .ok (.getfield 23, 3) := by decide +kernel
theorem d_X10_build_99 : decode c_X10_build 99 = .ok (.iload 5, 2) := by decide +kernel
theorem d_X10_build_101 : decode c_X10_build 101 = .ok (.iaload, 1) := by decide +kernel
theorem d_X10_build_102 : decode c_X10_build 102 = .ok (.iload 4, 2) := by decide +kernel
theorem d_X10_build_104 : decode c_X10_build 104 = .ok (.if_icmp .ne 19, 3) := by decide +kernel
theorem d_X10_build_107 : decode c_X10_build 107 = .ok (.aload_n 0, 1) := by decide +kernel
theorem d_X10_build_108 : decode c_X10_build 108 = .ok (.iload 5, 2) := by decide +kernel
theorem d_X10_build_110 : decode c_X10_build 110 = .ok (.invokevirtual 162, 3) := by decide +kernel
theorem d_X10_build_113 : decode c_X10_build 113 = .ok (.ifCond .eq 10, 3) := by decide +kernel
theorem d_X10_build_116 : decode c_X10_build 116 = .ok (.aload_n 0, 1) := by decide +kernel
theorem d_X10_build_117 : decode c_X10_build 117 = .ok (.iload 5, 2) := by decide +kernel
theorem d_X10_build_119 : decode c_X10_build 119 = .ok (.iload_n 3, 1) := by decide +kernel
theorem d_X10_build_120 : decode c_X10_build 120 = .ok (.invokevirtual 153, 3) := by decide +kernel
theorem d_X10_build_123 : decode c_X10_build 123 = .ok (.iinc 5 1, 3) := by decide +kernel
theorem d_X10_build_126 : decode c_X10_build 126 = .ok (.goto (-40), 3) := by decide +kernel
theorem d_X10_build_129 : decode c_X10_build 129 = .ok (.iinc 4 1, 3) := by decide +kernel
theorem d_X10_build_132 : decode c_X10_build 132 = .ok (.goto (-56), 3) := by decide +kernel
theorem d_X10_build_135 : decode c_X10_build 135 = .ok (.iconst 1, 1) := by decide +kernel
theorem d_X10_build_136 : decode c_X10_build 136 = .ok (.istore 4, 2) := by decide +kernel
theorem d_X10_build_138 : decode c_X10_build 138 = .ok (.iload 4, 2) := by decide +kernel
theorem d_X10_build_140 : decode c_X10_build 140 = .ok (.bipush 9, 2) := by decide +kernel
theorem d_X10_build_142 : decode c_X10_build 142 = .ok (.if_icmp .gt 103, 3) := by decide +kernel
theorem d_X10_build_145 : decode c_X10_build 145 = .ok (.iload_n 2, 1) := by decide +kernel
theorem d_X10_build_146 : decode c_X10_build 146 = .ok (.iconst 4, 1) := by decide +kernel
theorem d_X10_build_147 : decode c_X10_build 147 = .ok (.if_icmp .ge 98, 3) := by decide +kernel
theorem d_X10_build_150 : decode c_X10_build 150 = .ok (.iconst 0, 1) := by decide +kernel
theorem d_X10_build_151 : decode c_X10_build 151 = .ok (.istore 5, 2) := by decide +kernel
theorem d_X10_build_153 : decode c_X10_build 153 = .ok (.iload 5, 2) := by decide +kernel
theorem d_X10_build_155 : decode c_X10_build 155 = .ok (.aload_n 0, 1) := by decide +kernel
theorem d_X10_build_156 : decode c_X10_build 156 = .ok (.getfield 106, 3) := by decide +kernel
theorem d_X10_build_159 : decode c_X10_build 159 = .ok (.if_icmp .ge 80, 3) := by decide +kernel
theorem d_X10_build_162 : decode c_X10_build 162 = .ok (.aload_n 0, 1) := by decide +kernel
theorem d_X10_build_163 : decode c_X10_build 163 = .ok (.getfield 32, 3) := by decide +kernel
theorem d_X10_build_166 : decode c_X10_build 166 = .ok (.iload 5, 2) := by decide +kernel
theorem d_X10_build_168 : decode c_X10_build 168 = .ok (.iaload, 1) := by decide +kernel
theorem d_X10_build_169 : decode c_X10_build 169 = .ok (.iload 4, 2) := by decide +kernel
theorem d_X10_build_171 : decode c_X10_build 171 = .ok (.if_icmp .ne 62, 3) := by decide +kernel
theorem d_X10_build_174 : decode c_X10_build 174 = .ok (.aload_n 0, 1) := by decide +kernel
theorem d_X10_build_175 : decode c_X10_build 175 = .ok (.getfield 38, 3) := by decide +kernel
theorem d_X10_build_178 : decode c_X10_build 178 = .ok (.iload 5, 2) := by decide +kernel
theorem d_X10_build_180 : decode c_X10_build 180 = .ok (.iaload, 1) := by decide +kernel
theorem d_X10_build_181 : decode c_X10_build 181 = .ok (.iload_n 2, 1) := by decide +kernel
theorem d_X10_build_182 : decode c_X10_build 182 = .ok (.ishr, 1) := by decide +kernel
theorem d_X10_build_183 : decode c_X10_build 183 = .ok (.iconst 1, 1) := by decide +kernel
theorem d_X10_build_184 : decode c_X10_build 184 = .ok (.iand, 1) := by decide +kernel
theorem d_X10_build_185 : decode c_X10_build 185 = .ok (.iconst 1, 1) := by decide +kernel
theorem d_X10_build_186 : decode c_X10_build 186 = .ok (.if_icmp .ne 47, 3) := by decide +kernel
theorem d_X10_build_189 : decode c_X10_build 189 = .ok (.aload_n 0, 1) := by decide +kernel
theorem d_X10_build_190 : decode c_X10_build 190 = .ok (.getfield 44, 3) := by decide +kernel
theorem d_X10_build_193 : decode c_X10_build 193 = .ok (.iload_n 1, 1) := by decide +kernel
theorem d_X10_build_194 : decode c_X10_build 194 = .ok (.iaload, 1) := by decide +kernel
theorem d_X10_build_195 : decode c_X10_build 195 = .ok (.aload_n 0, 1) := by decide +kernel
theorem d_X10_build_196 : decode c_X10_build 196 = .ok (.getfield 35, 3) := by decide +kernel
theorem d_X10_build_199 : decode c_X10_build 199 = .ok (.iload 5, 2) := by decide +kernel
theorem d_X10_build_201 : decode c_X10_build 201 = .ok (.iaload, 1) := by decide +kernel
theorem d_X10_build_202 : decode c_X10_build 202 = .ok (.ishr, 1) := by decide +kernel
theorem d_X10_build_203 : decode c_X10_build 203 = .ok (.iconst 1, 1) := by decide +kernel
theorem d_X10_build_204 : decode c_X10_build 204 = .ok (.iand, 1) := by decide +kernel
theorem d_X10_build_205 : decode c_X10_build 205 = .ok (.iconst 1, 1) := by decide +kernel
theorem d_X10_build_206 : decode c_X10_build 206 = .ok (.if_icmp .ne 27, 3) := by decide +kernel
theorem d_X10_build_209 : decode c_X10_build 209 = .ok (.aload_n 0, 1) := by decide +kernel
theorem d_X10_build_210 : decode c_X10_build 210 = .ok (.getfield 77, 3) := by decide +kernel
theorem d_X10_build_213 : decode c_X10_build 213 = .ok (.aload_n 0, 1) := by decide +kernel
theorem d_X10_build_214 : decode c_X10_build 214 = .ok (.getfield 150, 3) := by decide +kernel
theorem d_X10_build_217 : decode c_X10_build 217 = .ok (.bipush 16, 2) := by decide +kernel
theorem d_X10_build_219 : decode c_X10_build 219 = .ok (.iload 5, 2) := by decide +kernel
theorem d_X10_build_221 : decode c_X10_build 221 = .ok (.iadd, 1) := by decide +kernel
theorem d_X10_build_222 : decode c_X10_build 222 = .ok (.iastore, 1) := by decide +kernel
theorem d_X10_build_223 : decode c_X10_build 223 = .ok (.aload_n 0, 1) := by decide +kernel
theorem d_X10_build_224 : decode c_X10_build 224 = .ok (.dup, 1) := by decide +kernel
theorem d_X10_build_225 : decode c_X10_build 225 = .ok (.getfield 150, 3) := by decide +kernel
theorem d_X10_build_228 : decode c_X10_build 228 = .ok (.iconst 1, 1) := by decide +kernel
theorem d_X10_build_229 : decode c_X10_build 229 = .ok (.iadd, 1) := by decide +kernel
theorem d_X10_build_230 : decode c_X10_build 230 = .ok (.putfield 150, 3) := by decide +kernel
theorem d_X10_build_233 : decode c_X10_build 233 = .ok (.iinc 5 1, 3) := by decide +kernel
theorem d_X10_build_236 : decode c_X10_build 236 = .ok (.goto (-83), 3) := by decide +kernel
theorem d_X10_build_239 : decode c_X10_build 239 = .ok (.iinc 4 1, 3) := by decide +kernel
theorem d_X10_build_242 : decode c_X10_build 242 = .ok (.goto (-104), 3) := by decide +kernel
theorem d_X10_build_245 : decode c_X10_build 245 = .ok (.aload_n 0, 1) := by decide +kernel
theorem d_X10_build_246 : decode c_X10_build 246 = .ok (.getfield 77, 3) := by decide +kernel
theorem d_X10_build_249 : decode c_X10_build 249 = .ok (.aload_n 0, 1) := by decide +kernel
theorem d_X10_build_250 : decode c_X10_build 250 = .ok (.getfield 150, 3) := by decide +kernel
theorem d_X10_build_253 : decode c_X10_build 253 = .ok (.bipush 32, 2) := by decide +kernel
theorem d_X10_build_255 : decode c_X10_build 255 = .ok (.iastore, 1) := by decide +kernel
theorem d_X10_build_256 : decode c_X10_build 256 = .ok (.aload_n 0, 1) := by decide +kernel
theorem d_X10_build_257 : decode c_X10_build 257 = .ok (.dup, 1) := by decide +kernel
theorem d_X10_build_258 : decode c_X10_build 258 = .ok (.getfield 150, 3) := by decide +kernel
theorem d_X10_build_261 : decode c_X10_build 261 = .ok (.iconst 1, 1) := by decide +kernel
theorem d_X10_build_262 : decode c_X10_build 262 = .ok (.iadd, 1) := by decide +kernel
theorem d_X10_build_263 : decode c_X10_build 263 = .ok (.putfield 150, 3) := by decide +kernel
theorem d_X10_build_266 : decode c_X10_build 266 = .ok (.return_, 1) := by decide +kernel
theorem d_X10_deploy_0 : decode c_X10_deploy 0 = .ok (.aload_n 0, 1) := by decide +kernel
theorem d_X10_deploy_1 : decode c_X10_deploy 1 = .ok (.getfield 92, 3) := by decide +kernel
theorem d_X10_deploy_4 : decode c_X10_deploy 4 = .ok (.ifCond .eq 6, 3) := by decide +kernel
theorem d_X10_deploy_7 : decode c_X10_deploy 7 = .ok (.bipush (-2), 2) := by decide +kernel
theorem d_X10_deploy_9 : decode c_X10_deploy 9 = .ok (.ireturn, 1) := by decide +kernel
theorem d_X10_deploy_10 : decode c_X10_deploy 10 = .ok (.iconst 0, 1) := by decide +kernel
theorem d_X10_deploy_11 : decode c_X10_deploy 11 = .ok (.istore_n 1, 1) := by decide +kernel
theorem d_X10_deploy_12 : decode c_X10_deploy 12 = .ok (.iload_n 1, 1) := by decide +kernel
theorem d_X10_deploy_13 : decode c_X10_deploy 13 = .ok (.aload_n 0, 1) := by decide +kernel
theorem d_X10_deploy_14 : decode c_X10_deploy 14 = .ok (.getfield 103, 3) := by decide +kernel
theorem d_X10_deploy_17 : decode c_X10_deploy 17 = .ok (.if_icmp .ge 22, 3) := by decide +kernel
theorem d_X10_deploy_20 : decode c_X10_deploy 20 = .ok (.aload_n 0, 1) := by decide +kernel
theorem d_X10_deploy_21 : decode c_X10_deploy 21 = .ok (.iload_n 1, 1) := by decide +kernel
theorem d_X10_deploy_22 : decode c_X10_deploy 22 = .ok (.invokevirtual 166, 3) := by decide +kernel
theorem d_X10_deploy_25 : decode c_X10_deploy 25 = .ok (.ifCond .eq 8, 3) := by decide +kernel
theorem d_X10_deploy_28 : decode c_X10_deploy 28 = .ok (.bipush 100, 2) := by decide +kernel
theorem d_X10_deploy_30 : decode c_X10_deploy 30 = .ok (.iload_n 1, 1) := by decide +kernel
theorem d_X10_deploy_31 : decode c_X10_deploy 31 = .ok (.iadd, 1) := by decide +kernel
theorem d_X10_deploy_32 : decode c_X10_deploy 32 = .ok (.ireturn, 1) := by decide +kernel
theorem d_X10_deploy_33 : decode c_X10_deploy 33 = .ok (.iinc 1 1, 3) := by decide +kernel
theorem d_X10_deploy_36 : decode c_X10_deploy 36 = .ok (.goto (-24), 3) := by decide +kernel
theorem d_X10_deploy_39 : decode c_X10_deploy 39 = .ok (.iconst 0, 1) := by decide +kernel
theorem d_X10_deploy_40 : decode c_X10_deploy 40 = .ok (.istore_n 1, 1) := by decide +kernel
theorem d_X10_deploy_41 : decode c_X10_deploy 41 = .ok (.iload_n 1, 1) := by decide +kernel
theorem d_X10_deploy_42 : decode c_X10_deploy 42 = .ok (.aload_n 0, 1) := by decide +kernel
theorem d_X10_deploy_43 : decode c_X10_deploy 43 = .ok (.getfield 109, 3) := by decide +kernel
theorem d_X10_deploy_46 : decode c_X10_deploy 46 = .ok (.if_icmp .ge 45, 3) := by decide +kernel
theorem d_X10_deploy_49 : decode c_X10_deploy 49 = .ok (.iconst (-1), 1) := by decide +kernel
theorem d_X10_deploy_50 : decode c_X10_deploy 50 = .ok (.istore_n 2, 1) := by decide +kernel
theorem d_X10_deploy_51 : decode c_X10_deploy 51 = .ok (.iload_n 2, 1) := by decide +kernel
theorem d_X10_deploy_52 : decode c_X10_deploy 52 = .ok (.iconst 4, 1) := by decide +kernel
theorem d_X10_deploy_53 : decode c_X10_deploy 53 = .ok (.if_icmp .ge 32, 3) := by decide +kernel
theorem d_X10_deploy_56 : decode c_X10_deploy 56 = .ok (.aload_n 0, 1) := by decide +kernel
theorem d_X10_deploy_57 : decode c_X10_deploy 57 = .ok (.iload_n 1, 1) := by decide +kernel
theorem d_X10_deploy_58 : decode c_X10_deploy 58 = .ok (.iload_n 2, 1) := by decide +kernel
theorem d_X10_deploy_59 : decode c_X10_deploy 59 = .ok (.invokestatic 129, 3) := by decide +kernel
theorem d_X10_deploy_62 : decode c_X10_deploy 62 = .ok (.invokevirtual 166, 3) := by decide +kernel
theorem d_X10_deploy_65 : decode c_X10_deploy 65 = .ok (.ifCond .eq 14, 3) := by decide +kernel
theorem d_X10_deploy_68 : decode c_X10_deploy 68 = .ok (.sipush 201, 3) := by decide +kernel
theorem d_X10_deploy_71 : decode c_X10_deploy 71 = .ok (.bipush 8, 2) := by decide +kernel
theorem d_X10_deploy_73 : decode c_X10_deploy 73 = .ok (.iload_n 1, 1) := by decide +kernel
theorem d_X10_deploy_74 : decode c_X10_deploy 74 = .ok (.imul, 1) := by decide +kernel
theorem d_X10_deploy_75 : decode c_X10_deploy 75 = .ok (.iadd, 1) := by decide +kernel
theorem d_X10_deploy_76 : decode c_X10_deploy 76 = .ok (.iload_n 2, 1) := by decide +kernel
theorem d_X10_deploy_77 : decode c_X10_deploy 77 = .ok (.iadd, 1) := by decide +kernel
theorem d_X10_deploy_78 : decode c_X10_deploy 78 = .ok (.ireturn, 1) := by decide +kernel
theorem d_X10_deploy_79 : decode c_X10_deploy 79 = .ok (.iinc 2 1, 3) := by decide +kernel
theorem d_X10_deploy_82 : decode c_X10_deploy 82 = .ok (.goto (-31), 3) := by decide +kernel
theorem d_X10_deploy_85 : decode c_X10_deploy 85 = .ok (.iinc 1 1, 3) := by decide +kernel
theorem d_X10_deploy_88 : decode c_X10_deploy 88 = .ok (.goto (-47), 3) := by decide +kernel
theorem d_X10_deploy_91 : decode c_X10_deploy 91 = .ok (.iconst 0, 1) := by decide +kernel
theorem d_X10_deploy_92 : decode c_X10_deploy 92 = .ok (.istore_n 1, 1) := by decide +kernel
theorem d_X10_deploy_93 : decode c_X10_deploy 93 = .ok (.iload_n 1, 1) := by decide +kernel
theorem d_X10_deploy_94 : decode c_X10_deploy 94 = .ok (.iconst 4, 1) := by decide +kernel
theorem d_X10_deploy_95 : decode c_X10_deploy 95 = .ok (.aload_n 0, 1) := by decide +kernel
theorem d_X10_deploy_96 : decode c_X10_deploy 96 = .ok (.getfield 109, 3) := by decide +kernel
theorem d_X10_deploy_99 : decode c_X10_deploy 99 = .ok (.imul, 1) := by decide +kernel
theorem d_X10_deploy_100 : decode c_X10_deploy 100 = .ok (.if_icmp .ge 45, 3) := by decide +kernel
theorem d_X10_deploy_103 : decode c_X10_deploy 103 = .ok (.aload_n 0, 1) := by decide +kernel
theorem d_X10_deploy_104 : decode c_X10_deploy 104 = .ok (.iload_n 1, 1) := by decide +kernel
theorem d_X10_deploy_105 : decode c_X10_deploy 105 = .ok (.iconst 4, 1) := by decide +kernel
theorem d_X10_deploy_106 : decode c_X10_deploy 106 = .ok (.idiv, 1) := by decide +kernel
theorem d_X10_deploy_107 : decode c_X10_deploy 107 = .ok (.iload_n 1, 1) := by decide +kernel
theorem d_X10_deploy_108 : decode c_X10_deploy 108 = .ok (.iconst 4, 1) := by decide +kernel
theorem d_X10_deploy_109 : decode c_X10_deploy 109 = .ok (.irem, 1) := by decide +kernel
theorem d_X10_deploy_110 : decode c_X10_deploy 110 = .ok (.invokevirtual 169, 3) := by decide +kernel
theorem d_X10_deploy_113 : decode c_X10_deploy 113 = .ok (.aload_n 0, 1) := by decide +kernel
theorem d_X10_deploy_114 : decode c_X10_deploy 114 = .ok (.getfield 47, 3) := by decide +kernel
theorem d_X10_deploy_117 : decode c_X10_deploy 117 = .ok (.iload_n 1, 1) := by decide +kernel
theorem d_X10_deploy_118 : decode c_X10_deploy 118 = .ok (.iaload, 1) := by decide +kernel
theorem d_X10_deploy_119 : decode c_X10_deploy 119 = .ok (.iconst 1, 1) := by decide +kernel
theorem d_X10_deploy_120 : decode c_X10_deploy 120 = .ok (.iand, 1) := by decide +kernel
theorem d_X10_deploy_121 : decode c_X10_deploy 121 = .ok (.iconst 1, 1) := by decide +kernel
theorem d_X10_deploy_122 : decode c_X10_deploy 122 = .ok (.if_icmp .ne 17, 3) := by decide +kernel
theorem d_X10_deploy_125 : decode c_X10_deploy 125 = .ok (.aload_n 0, 1) := by decide +kernel
theorem d_X10_deploy_126 : decode c_X10_deploy 126 = .ok (.getfield 150, 3) := by decide +kernel
theorem d_X10_deploy_129 : decode c_X10_deploy 129 = .ok (.iconst 1, 1) := by decide +kernel
theorem d_X10_deploy_130 : decode c_X10_deploy 130 = .ok (.if_icmp .le 9, 3) := by decide +kernel
theorem d_X10_deploy_133 : decode c_X10_deploy 133 = .ok (.sipush 300, 3) := by decide +kernel
theorem d_X10_deploy_136 : decode c_X10_deploy 136 = .ok (.iload_n 1, 1) := by decide +kernel
theorem d_X10_deploy_137 : decode c_X10_deploy 137 = .ok (.iadd, 1) := by decide +kernel
theorem d_X10_deploy_138 : decode c_X10_deploy 138 = .ok (.ireturn, 1) := by decide +kernel
theorem d_X10_deploy_139 : decode c_X10_deploy 139 = .ok (.iinc 1 1, 3) := by decide +kernel
theorem d_X10_deploy_142 : decode c_X10_deploy 142 = .ok (.goto (-49), 3) := by decide +kernel
theorem d_X10_deploy_145 : decode c_X10_deploy 145 = .ok (.aload_n 0, 1) := by decide +kernel
theorem d_X10_deploy_146 : decode c_X10_deploy 146 = .ok (.iconst 1, 1) := by decide +kernel
theorem d_X10_deploy_147 : decode c_X10_deploy 147 = .ok (.putfield 92, 3) := by decide +kernel
theorem d_X10_deploy_150 : decode c_X10_deploy 150 = .ok (.iconst 0, 1) := by decide +kernel
theorem d_X10_deploy_151 : decode c_X10_deploy 151 = .ok (.ireturn, 1) := by decide +kernel
theorem d_X10_check_0 : decode c_X10_check 0 = .ok (.aload_n 0, 1) := by decide +kernel
theorem d_X10_check_1 : decode c_X10_check 1 = .ok (.getfield 92, 3) := by decide +kernel
theorem d_X10_check_4 : decode c_X10_check 4 = .ok (.ifCond .ne 6, 3) := by decide +kernel
theorem d_X10_check_7 : decode c_X10_check 7 = .ok (.bipush (-6), 2) := by decide +kernel
theorem d_X10_check_9 : decode c_X10_check 9 = .ok (.ireturn, 1) := by decide +kernel
theorem d_X10_check_10 : decode c_X10_check 10 = .ok (.iload_n 1, 1) := by decide +kernel
theorem d_X10_check_11 : decode c_X10_check 11 = .ok (.aload_n 0, 1) := by decide +kernel
theorem d_X10_check_12 : decode c_X10_check 12 = .ok (.getfield 109, 3) := by decide +kernel
theorem d_X10_check_15 : decode c_X10_check 15 = .ok (.iconst 1, 1) := by decide +kernel
theorem d_X10_check_16 : decode c_X10_check 16 = .ok (.isub, 1) := by decide +kernel
theorem d_X10_check_17 : decode c_X10_check 17 = .ok (.invokestatic 121, 3) := by decide +kernel
theorem d_X10_check_20 : decode c_X10_check 20 = .ok (.ifCond .eq 12, 3) := by decide +kernel
theorem d_X10_check_23 : decode c_X10_check 23 = .ok (.iload_n 2, 1) := by decide +kernel
theorem d_X10_check_24 : decode c_X10_check 24 = .ok (.bipush 6, 2) := by decide +kernel
theorem d_X10_check_26 : decode c_X10_check 26 = .ok (.invokestatic 121, 3) := by decide +kernel
theorem d_X10_check_29 : decode c_X10_check 29 = .ok (.ifCond .ne 6, 3) := by decide +kernel
theorem d_X10_check_32 : decode c_X10_check 32 = .ok (.bipush (-3), 2) := by decide +kernel
theorem d_X10_check_34 : decode c_X10_check 34 = .ok (.ireturn, 1) := by decide +kernel
theorem d_X10_check_35 : decode c_X10_check 35 = .ok (.aload_n 0, 1) := by decide +kernel
theorem d_X10_check_36 : decode c_X10_check 36 = .ok (.iload_n 1, 1) := by decide +kernel
theorem d_X10_check_37 : decode c_X10_check 37 = .ok (.iload_n 2, 1) := by decide +kernel
theorem d_X10_check_38 : decode c_X10_check 38 = .ok (.invokevirtual 169, 3) := by decide +kernel
theorem d_X10_check_41 : decode c_X10_check 41 = .ok (.iconst 0, 1) := by decide +kernel
theorem d_X10_check_42 : decode c_X10_check 42 = .ok (.ireturn, 1) := by decide +kernel
theorem d_X10_length_0 : decode c_X10_length 0 = .ok (.aload_n 0, 1) := by decide +kernel
theorem d_X10_length_1 : decode c_X10_length 1 = .ok (.iload_n 1, 1) := by decide +kernel
theorem d_X10_length_2 : decode c_X10_length 2 = .ok (.iload_n 2, 1) := by decide +kernel
theorem d_X10_length_3 : decode c_X10_length 3 = .ok (.invokevirtual 172, 3) := by decide +kernel
theorem d_X10_length_6 : decode c_X10_length 6 = .ok (.istore_n 3, 1) := by decide +kernel
theorem d_X10_length_7 : decode c_X10_length 7 = .ok (.iload_n 3, 1) := by decide +kernel
theorem d_X10_length_8 : decode c_X10_length 8 = .ok (.ifCond .ge 7, 3) := by decide +kernel
theorem d_X10_length_11 : decode c_X10_length 11 = .ok (.iload_n 3, 1) := by decide +kernel
theorem d_X10_length_12 : decode c_X10_length 12 = .ok (.goto 7, 3) := by decide +kernel
theorem d_X10_length_15 : decode c_X10_length 15 = .ok (.aload_n 0, 1) := by decide +kernel
theorem d_X10_length_16 : decode c_X10_length 16 = .ok (.getfield 150, 3) := by decide +kernel
theorem d_X10_length_19 : decode c_X10_length 19 = .ok (.ireturn, 1) := by decide +kernel
theorem d_X10_element_0 : decode c_X10_element 0 = .ok (.aload_n 0, 1) := by decide +kernel
theorem d_X10_element_1 : decode c_X10_element 1 = .ok (.iload_n 1, 1) := by decide +kernel
theorem d_X10_element_2 : decode c_X10_element 2 = .ok (.iload_n 2, 1) := by decide +kernel
theorem d_X10_element_3 : decode c_X10_element 3 = .ok (.invokevirtual 172, 3) := by decide +kernel
theorem d_X10_element_6 : decode c_X10_element 6 = .ok (.istore 4, 2) := by decide +kernel
theorem d_X10_element_8 : decode c_X10_element 8 = .ok (.iload 4, 2) := by decide +kernel
theorem d_X10_element_10 : decode c_X10_element 10 = .ok (.ifCond .ge 8, 3) := by decide +kernel
theorem d_X10_element_13 : decode c_X10_element 13 = .ok (.iload 4, 2) := by decide +kernel
theorem d_X10_element_15 : decode c_X10_element 15 = .ok (.goto 27, 3) := by decide +kernel
theorem d_X10_element_18 : decode c_X10_element 18 = .ok (.iload_n 3, 1) := by decide +kernel
theorem d_X10_element_19 : decode c_X10_element 19 = .ok (.aload_n 0, 1) := by decide +kernel
theorem d_X10_element_20 : decode c_X10_element 20 = .ok (.getfield 150, 3) := by decide +kernel
theorem d_X10_element_23 : decode c_X10_element 23 = .ok (.iconst 1, 1) := by decide +kernel
theorem d_X10_element_24 : decode c_X10_element 24 = .ok (.isub, 1) := by decide +kernel
theorem d_X10_element_25 : decode c_X10_element 25 = .ok (.invokestatic 121, 3) := by decide +kernel
theorem d_X10_element_28 : decode c_X10_element 28 = .ok (.ifCond .eq 12, 3) := by decide +kernel
theorem d_X10_element_31 : decode c_X10_element 31 = .ok (.aload_n 0, 1) := by decide +kernel
theorem d_X10_element_32 : decode c_X10_element 32 = .ok (.getfield 77, 3) := by decide +kernel
theorem d_X10_element_35 : decode c_X10_element 35 = .ok (.iload_n 3, 1) := by decide +kernel
theorem d_X10_element_36 : decode c_X10_element 36 = .ok (.iaload, 1) := by decide +kernel
theorem d_X10_element_37 : decode c_X10_element 37 = .ok (.goto 5, 3) := by decide +kernel
theorem d_X10_element_40 : decode c_X10_element 40 = .ok (.bipush (-3), 2) := by decide +kernel
theorem d_X10_element_42 : decode c_X10_element 42 = .ok (.ireturn, 1) := by decide +kernel
theorem d_X10_behaviourOf_0 : decode c_X10_behaviourOf 0 = .ok (.iload_n 1, 1) := by decide +kernel
theorem d_X10_behaviourOf_1 : decode c_X10_behaviourOf 1 = .ok (.bipush 16, 2) := by decide +kernel
theorem d_X10_behaviourOf_3 : decode c_X10_behaviourOf 3 = .ok (.if_icmp .ge 12, 3) := by decide +kernel
theorem d_X10_behaviourOf_6 : decode c_X10_behaviourOf 6 = .ok (.aload_n 0, 1) := by decide +kernel
theorem d_X10_behaviourOf_7 : decode c_X10_behaviourOf 7 = .ok (.getfield 29, 3) := by decide +kernel
theorem d_X10_behaviourOf_10 : decode c_X10_behaviourOf 10 = .ok (.iload_n 1, 1) := by decide +kernel
theorem d_X10_behaviourOf_11 : decode c_X10_behaviourOf 11 = .ok (.iaload, 1) := by decide +kernel
theorem d_X10_behaviourOf_12 : decode c_X10_behaviourOf 12 = .ok (.goto 12, 3) := by decide +kernel
theorem d_X10_behaviourOf_15 : decode c_X10_behaviourOf 15 = .ok (.aload_n 0, 1) := by decide +kernel
theorem d_X10_behaviourOf_16 : decode c_X10_behaviourOf 16 = .ok (.getfield 41, 3) := by decide +kernel
theorem d_X10_behaviourOf_19 : decode c_X10_behaviourOf 19 = .ok (.iload_n 1, 1) := by decide +kernel
theorem d_X10_behaviourOf_20 : decode c_X10_behaviourOf 20 = .ok (.bipush 16, 2) := by decide +kernel
theorem d_X10_behaviourOf_22 : decode c_X10_behaviourOf 22 = .ok (.isub, 1) := by decide +kernel
theorem d_X10_behaviourOf_23 : decode c_X10_behaviourOf 23 = .ok (.iaload, 1) := by decide +kernel
theorem d_X10_behaviourOf_24 : decode c_X10_behaviourOf 24 = .ok (.ireturn, 1) := by decide +kernel
theorem d_X10_answer_0 : decode c_X10_answer 0 = .ok (.aload_n 0, 1) := by decide +kernel
theorem d_X10_answer_1 : decode c_X10_answer 1 = .ok (.iload_n 1, 1) := by decide +kernel
theorem d_X10_answer_2 : decode c_X10_answer 2 = .ok (.putfield 175, 3) := by decide +kernel
theorem d_X10_answer_5 : decode c_X10_answer 5 = .ok (.aload_n 0, 1) := by decide +kernel
theorem d_X10_answer_6 : decode c_X10_answer 6 = .ok (.iload_n 2, 1) := by decide +kernel
theorem d_X10_answer_7 : decode c_X10_answer 7 = .ok (.putfield 178, 3) := by decide +kernel
theorem d_X10_answer_10 : decode c_X10_answer 10 = .ok (.return_, 1) := by decide +kernel
theorem d_X10_enter_0 : decode c_X10_enter 0 = .ok (.aload_n 0, 1) := by decide +kernel
theorem d_X10_enter_1 : decode c_X10_enter 1 = .ok (.getfield 77, 3) := by decide +kernel
theorem d_X10_enter_4 : decode c_X10_enter 4 = .ok (.iload_n 1, 1) := by decide +kernel
theorem d_X10_enter_5 : decode c_X10_enter 5 = .ok (.iaload, 1) := by decide +kernel
theorem d_X10_enter_6 : decode c_X10_enter 6 = .ok (.istore 4, 2) := by decide +kernel
theorem d_X10_enter_8 : decode c_X10_enter 8 = .ok (.aload_n 0, 1) := by decide +kernel
theorem d_X10_enter_9 : decode c_X10_enter 9 = .ok (.getfield 80, 3) := by decide +kernel
theorem d_X10_enter_12 : decode c_X10_enter 12 = .ok (.iload_n 1, 1) := by decide +kernel
theorem d_X10_enter_13 : decode c_X10_enter 13 = .ok (.iload_n 1, 1) := by decide +kernel
theorem d_X10_enter_14 : decode c_X10_enter 14 = .ok (.ifCond .le 27, 3) := by decide +kernel
theorem d_X10_enter_17 : decode c_X10_enter 17 = .ok (.aload_n 0, 1) := by decide +kernel
theorem d_X10_enter_18 : decode c_X10_enter 18 = .ok (.getfield 77, 3) := by decide +kernel
theorem d_X10_enter_21 : decode c_X10_enter 21 = .ok (.iload_n 1, 1) := by decide +kernel
theorem d_X10_enter_22 : decode c_X10_enter 22 = .ok (.iconst 1, 1) := by decide +kernel
theorem d_X10_enter_23 : decode c_X10_enter 23 = .ok (.isub, 1) := by decide +kernel
theorem d_X10_enter_24 : decode c_X10_enter 24 = .ok (.iaload, 1) := by decide +kernel
theorem d_X10_enter_25 : decode c_X10_enter 25 = .ok (.bipush 16, 2) := by decide +kernel
theorem d_X10_enter_27 : decode c_X10_enter 27 = .ok (.if_icmp .lt 14, 3) := by decide +kernel
theorem d_X10_enter_30 : decode c_X10_enter 30 = .ok (.aload_n 0, 1) := by decide +kernel
theorem d_X10_enter_31 : decode c_X10_enter 31 = .ok (.getfield 80, 3) := by decide +kernel
theorem d_X10_enter_34 : decode c_X10_enter 34 = .ok (.iload_n 1, 1) := by decide +kernel
theorem d_X10_enter_35 : decode c_X10_enter 35 = .ok (.iconst 1, 1) := by decide +kernel
theorem d_X10_enter_36 : decode c_X10_enter 36 = .ok (.isub, 1) := by decide +kernel
theorem d_X10_enter_37 : decode c_X10_enter 37 = .ok (.iaload, 1) := by decide +kernel
theorem d_X10_enter_38 : decode c_X10_enter 38 = .ok (.goto 7, 3) := by decide +kernel
theorem d_X10_enter_41 : decode c_X10_enter 41 = .ok (.aload_n 0, 1) := by decide +kernel
theorem d_X10_enter_42 : decode c_X10_enter 42 = .ok (.getfield 181, 3) := by decide +kernel
theorem d_X10_enter_45 : decode c_X10_enter 45 = .ok (.iastore, 1) := by decide +kernel
theorem d_X10_enter_46 : decode c_X10_enter 46 = .ok (.iload 4, 2) := by decide +kernel
theorem d_X10_enter_48 : decode c_X10_enter 48 = .ok (.bipush 32, 2) := by decide +kernel
theorem d_X10_enter_50 : decode c_X10_enter 50 = .ok (.if_icmp .ne 70, 3) := by decide +kernel
theorem d_X10_enter_53 : decode c_X10_enter 53 = .ok (.iload_n 3, 1) := by decide +kernel
theorem d_X10_enter_54 : decode c_X10_enter 54 = .ok (.iconst 4, 1) := by decide +kernel
theorem d_X10_enter_55 : decode c_X10_enter 55 = .ok (.if_icmp .ge 22, 3) := by decide +kernel
theorem d_X10_enter_58 : decode c_X10_enter 58 = .ok (.aload_n 0, 1) := by decide +kernel
theorem d_X10_enter_59 : decode c_X10_enter 59 = .ok (.getfield 47, 3) := by decide +kernel
theorem d_X10_enter_62 : decode c_X10_enter 62 = .ok (.iconst 4, 1) := by decide +kernel
theorem d_X10_enter_63 : decode c_X10_enter 63 = .ok (.iload_n 2, 1) := by decide +kernel
theorem d_X10_enter_64 : decode c_X10_enter 64 = .ok (.imul, 1) := by decide +kernel
theorem d_X10_enter_65 : decode c_X10_enter 65 = .ok (.iload_n 3, 1) := by decide +kernel
theorem d_X10_enter_66 : decode c_X10_enter 66 = .ok (.iadd, 1) := by decide +kernel
theorem d_X10_enter_67 : decode c_X10_enter 67 = .ok (.iaload, 1) := by decide +kernel
theorem d_X10_enter_68 : decode c_X10_enter 68 = .ok (.iconst 4, 1) := by decide +kernel
theorem d_X10_enter_69 : decode c_X10_enter 69 = .ok (.iand, 1) := by decide +kernel
theorem d_X10_enter_70 : decode c_X10_enter 70 = .ok (.ifCond .eq 7, 3) := by decide +kernel
theorem d_X10_enter_73 : decode c_X10_enter 73 = .ok (.iconst 1, 1) := by decide +kernel
theorem d_X10_enter_74 : decode c_X10_enter 74 = .ok (.goto 4, 3) := by decide +kernel
theorem d_X10_enter_77 : decode c_X10_enter 77 = .ok (.iconst 0, 1) := by decide +kernel
theorem d_X10_enter_78 : decode c_X10_enter 78 = .ok (.istore 5, 2) := by decide +kernel
theorem d_X10_enter_80 : decode c_X10_enter 80 = .ok (.aload_n 0, 1) := by decide +kernel
theorem d_X10_enter_81 : decode c_X10_enter 81 = .ok (.iload 5, 2) := by decide +kernel
theorem d_X10_enter_83 : decode c_X10_enter 83 = .ok (.iload 5, 2) := by decide +kernel
theorem d_X10_enter_85 : decode c_X10_enter 85 = .ok (.ifCond .eq 10, 3) := by decide +kernel
theorem d_X10_enter_88 : decode c_X10_enter 88 = .ok (.bipush 33, 2) := by decide +kernel
theorem d_X10_enter_90 : decode c_X10_enter 90 = .ok (.iload_n 3, 1) := by decide +kernel
theorem d_X10_enter_91 : decode c_X10_enter 91 = .ok (.iadd, 1) := by decide +kernel
theorem d_X10_enter_92 : decode c_X10_enter 92 = .ok (.goto 23, 3) := by decide +kernel
theorem d_X10_enter_95 : decode c_X10_enter 95 = .ok (.iload_n 3, 1) := by decide +kernel
theorem d_X10_enter_96 : decode c_X10_enter 96 = .ok (.iconst 4, 1) := by decide +kernel
theorem d_X10_enter_97 : decode c_X10_enter 97 = .ok (.if_icmp .ge 16, 3) := by decide +kernel
theorem d_X10_enter_100 : decode c_X10_enter 100 = .ok (.iconst 3, 1) := by decide +kernel
theorem d_X10_enter_101 : decode c_X10_enter 101 = .ok (.aload_n 0, 1) := by decide +kernel
theorem d_X10_enter_102 : decode c_X10_enter 102 = .ok (.getfield 80, 3) := by decide +kernel
theorem d_X10_enter_105 : decode c_X10_enter 105 = .ok (.iload_n 1, 1) := by decide +kernel
theorem d_X10_enter_106 : decode c_X10_enter 106 = .ok (.iaload, 1) := by decide +kernel
theorem d_X10_enter_107 : decode c_X10_enter 107 = .ok (.imul, 1) := by decide +kernel
theorem d_X10_enter_108 : decode c_X10_enter 108 = .ok (.iload_n 3, 1) := by decide +kernel
theorem d_X10_enter_109 : decode c_X10_enter 109 = .ok (.iadd, 1) := by decide +kernel
theorem d_X10_enter_110 : decode c_X10_enter 110 = .ok (.goto 5, 3) := by decide +kernel
theorem d_X10_enter_113 : decode c_X10_enter 113 = .ok (.bipush 7, 2) := by decide +kernel
theorem d_X10_enter_115 : decode c_X10_enter 115 = .ok (.invokevirtual 184, 3) := by decide +kernel
theorem d_X10_enter_118 : decode c_X10_enter 118 = .ok (.iconst 0, 1) := by decide +kernel
theorem d_X10_enter_119 : decode c_X10_enter 119 = .ok (.ireturn, 1) := by decide +kernel
theorem d_X10_enter_120 : decode c_X10_enter 120 = .ok (.aload_n 0, 1) := by decide +kernel
theorem d_X10_enter_121 : decode c_X10_enter 121 = .ok (.iload 4, 2) := by decide +kernel
theorem d_X10_enter_123 : decode c_X10_enter 123 = .ok (.invokevirtual 188, 3) := by decide +kernel
theorem d_X10_enter_126 : decode c_X10_enter 126 = .ok (.istore 5, 2) := by decide +kernel
theorem d_X10_enter_128 : decode c_X10_enter 128 = .ok (.iload 5, 2) := by decide +kernel
theorem d_X10_enter_130 : decode c_X10_enter 130 = .ok (.iconst 2, 1) := by decide +kernel
theorem d_X10_enter_131 : decode c_X10_enter 131 = .ok (.if_icmp .ne 31, 3) := by decide +kernel
theorem d_X10_enter_134 : decode c_X10_enter 134 = .ok (.aload_n 0, 1) := by decide +kernel
theorem d_X10_enter_135 : decode c_X10_enter 135 = .ok (.iconst 0, 1) := by decide +kernel
theorem d_X10_enter_136 : decode c_X10_enter 136 = .ok (.iload 4, 2) := by decide +kernel
theorem d_X10_enter_138 : decode c_X10_enter 138 = .ok (.bipush 16, 2) := by decide +kernel
theorem d_X10_enter_140 : decode c_X10_enter 140 = .ok (.if_icmp .ge 10, 3) := by decide +kernel
theorem d_X10_enter_143 : decode c_X10_enter 143 = .ok (.aload_n 0, 1) := by decide +kernel
theorem d_X10_enter_144 : decode c_X10_enter 144 = .ok (.getfield 181, 3) := by decide +kernel
theorem d_X10_enter_147 : decode c_X10_enter 147 = .ok (.goto 9, 3) := by decide +kernel
theorem d_X10_enter_150 : decode c_X10_enter 150 = .ok (.aload_n 0, 1) := by decide +kernel
theorem d_X10_enter_151 : decode c_X10_enter 151 = .ok (.getfield 80, 3) := by decide +kernel
theorem d_X10_enter_154 : decode c_X10_enter 154 = .ok (.iload_n 1, 1) := by decide +kernel
theorem d_X10_enter_155 : decode c_X10_enter 155 = .ok (.iaload, 1) := by decide +kernel
theorem d_X10_enter_156 : decode c_X10_enter 156 = .ok (.invokevirtual 184, 3) := by decide +kernel
theorem d_X10_enter_159 : decode c_X10_enter 159 = .ok (.goto 110, 3) := by decide +kernel
theorem d_X10_enter_162 : decode c_X10_enter 162 = .ok (.iload 5, 2) := by decide +kernel
theorem d_X10_enter_164 : decode c_X10_enter 164 = .ok (.iconst 4, 1) := by decide +kernel
theorem d_X10_enter_165 : decode c_X10_enter 165 = .ok (.if_icmp .ne 15, 3) := by decide +kernel
theorem d_X10_enter_168 : decode c_X10_enter 168 = .ok (.aload_n 0, 1) := by decide +kernel
theorem d_X10_enter_169 : decode c_X10_enter 169 = .ok (.iconst 1, 1) := by decide +kernel
theorem d_X10_enter_170 : decode c_X10_enter 170 = .ok (.iconst 1, 1) := by decide +kernel
theorem d_X10_enter_171 : decode c_X10_enter 171 = .ok (.iload 4, 2) := by decide +kernel
theorem d_X10_enter_173 : decode c_X10_enter 173 = .ok (.iadd, 1) := by decide +kernel
theorem d_X10_enter_174 : decode c_X10_enter 174 = .ok (.invokevirtual 184, 3) := by decide +kernel
theorem d_X10_enter_177 : decode c_X10_enter 177 = .ok (.goto 92, 3) := by decide +kernel
theorem d_X10_enter_180 : decode c_X10_enter 180 = .ok (.iload 5, 2) := by decide +kernel
theorem d_X10_enter_182 : decode c_X10_enter 182 = .ok (.iconst 3, 1) := by decide +kernel
theorem d_X10_enter_183 : decode c_X10_enter 183 = .ok (.if_icmp .ne 18, 3) := by decide +kernel
theorem d_X10_enter_186 : decode c_X10_enter 186 = .ok (.iload_n 3, 1) := by decide +kernel
theorem d_X10_enter_187 : decode c_X10_enter 187 = .ok (.iconst 3, 1) := by decide +kernel
theorem d_X10_enter_188 : decode c_X10_enter 188 = .ok (.if_icmp .le 13, 3) := by decide +kernel
theorem d_X10_enter_191 : decode c_X10_enter 191 = .ok (.aload_n 0, 1) := by decide +kernel
theorem d_X10_enter_192 : decode c_X10_enter 192 = .ok (.iconst 1, 1) := by decide +kernel
theorem d_X10_enter_193 : decode c_X10_enter 193 = .ok (.bipush 50, 2) := by decide +kernel
theorem d_X10_enter_195 : decode c_X10_enter 195 = .ok (.invokevirtual 184, 3) := by decide +kernel
theorem d_X10_enter_198 : decode c_X10_enter 198 = .ok (.goto 71, 3) := by decide +kernel
theorem d_X10_enter_201 : decode c_X10_enter 201 = .ok (.aload_n 0, 1) := by decide +kernel
theorem d_X10_enter_202 : decode c_X10_enter 202 = .ok (.getfield 83, 3) := by decide +kernel
theorem d_X10_enter_205 : decode c_X10_enter 205 = .ok (.iload_n 1, 1) := by decide +kernel
theorem d_X10_enter_206 : decode c_X10_enter 206 = .ok (.iconst 1, 1) := by decide +kernel
theorem d_X10_enter_207 : decode c_X10_enter 207 = .ok (.iastore, 1) := by decide +kernel
theorem d_X10_enter_208 : decode c_X10_enter 208 = .ok (.aload_n 0, 1) := by decide +kernel
theorem d_X10_enter_209 : decode c_X10_enter 209 = .ok (.iload 5, 2) := by decide +kernel
theorem d_X10_enter_211 : decode c_X10_enter 211 = .ok (.iconst 3, 1) := by decide +kernel
theorem d_X10_enter_212 : decode c_X10_enter 212 = .ok (.if_icmp .ne 19, 3) := by decide +kernel
theorem d_X10_enter_215 : decode c_X10_enter 215 = .ok (.iload 4, 2) := by decide +kernel
theorem d_X10_enter_217 : decode c_X10_enter 217 = .ok (.bipush 16, 2) := by decide +kernel
theorem d_X10_enter_219 : decode c_X10_enter 219 = .ok (.if_icmp .ge 12, 3) := by decide +kernel
theorem d_X10_enter_222 : decode c_X10_enter 222 = .ok (.aload_n 0, 1) := by decide +kernel
theorem d_X10_enter_223 : decode c_X10_enter 223 = .ok (.getfield 181, 3) := by decide +kernel
theorem d_X10_enter_226 : decode c_X10_enter 226 = .ok (.iconst 1, 1) := by decide +kernel
theorem d_X10_enter_227 : decode c_X10_enter 227 = .ok (.iadd, 1) := by decide +kernel
theorem d_X10_enter_228 : decode c_X10_enter 228 = .ok (.goto 7, 3) := by decide +kernel
theorem d_X10_enter_231 : decode c_X10_enter 231 = .ok (.aload_n 0, 1) := by decide +kernel
theorem d_X10_enter_232 : decode c_X10_enter 232 = .ok (.getfield 181, 3) := by decide +kernel
theorem d_X10_enter_235 : decode c_X10_enter 235 = .ok (.putfield 181, 3) := by decide +kernel
theorem d_X10_enter_238 : decode c_X10_enter 238 = .ok (.aload_n 0, 1) := by decide +kernel
theorem d_X10_enter_239 : decode c_X10_enter 239 = .ok (.getfield 80, 3) := by decide +kernel
theorem d_X10_enter_242 : decode c_X10_enter 242 = .ok (.iload_n 1, 1) := by decide +kernel
theorem d_X10_enter_243 : decode c_X10_enter 243 = .ok (.iload 5, 2) := by decide +kernel
theorem d_X10_enter_245 : decode c_X10_enter 245 = .ok (.iconst 3, 1) := by decide +kernel
theorem d_X10_enter_246 : decode c_X10_enter 246 = .ok (.if_icmp .ne 14, 3) := by decide +kernel
theorem d_X10_enter_249 : decode c_X10_enter 249 = .ok (.aload_n 0, 1) := by decide +kernel
theorem d_X10_enter_250 : decode c_X10_enter 250 = .ok (.getfield 80, 3) := by decide +kernel
theorem d_X10_enter_253 : decode c_X10_enter 253 = .ok (.iload_n 1, 1) := by decide +kernel
theorem d_X10_enter_254 : decode c_X10_enter 254 = .ok (.iaload, 1) := by decide +kernel
theorem d_X10_enter_255 : decode c_X10_enter 255 = .ok (.iconst 1, 1) := by decide +kernel
theorem d_X10_enter_256 : decode c_X10_enter 256 = .ok (.iadd, 1) := by decide +kernel
theorem d_X10_enter_257 : decode c_X10_enter 257 = .ok (.goto 9, 3) := by decide +kernel
theorem d_X10_enter_260 : decode c_X10_enter 260 = .ok (.aload_n 0, 1) := by decide +kernel
theorem d_X10_enter_261 : decode c_X10_enter 261 = .ok (.getfield 80, 3) := by decide +kernel
theorem d_X10_enter_264 : decode c_X10_enter 264 = .ok (.iload_n 1, 1) := by decide +kernel
theorem d_X10_enter_265 : decode c_X10_enter 265 = .ok (.iaload, 1) := by decide +kernel
theorem d_X10_enter_266 : decode c_X10_enter 266 = .ok (.iastore, 1) := by decide +kernel
theorem d_X10_enter_267 : decode c_X10_enter 267 = .ok (.iconst 1, 1) := by decide +kernel
theorem d_X10_enter_268 : decode c_X10_enter 268 = .ok (.ireturn, 1) := by decide +kernel
theorem d_X10_enter_269 : decode c_X10_enter 269 = .ok (.iconst 0, 1) := by decide +kernel
theorem d_X10_enter_270 : decode c_X10_enter 270 = .ok (.ireturn, 1) := by decide +kernel
theorem d_X10_resume_0 : decode c_X10_resume 0 = .ok (.aload_n 0, 1) := by decide +kernel
theorem d_X10_resume_1 : decode c_X10_resume 1 = .ok (.aload_n 0, 1) := by decide +kernel
theorem d_X10_resume_2 : decode c_X10_resume 2 = .ok (.getfield 77, 3) := by decide +kernel
theorem d_X10_resume_5 : decode c_X10_resume 5 = .ok (.iload_n 1, 1) := by decide +kernel
theorem d_X10_resume_6 : decode c_X10_resume 6 = .ok (.iaload, 1) := by decide +kernel
theorem d_X10_resume_7 : decode c_X10_resume 7 = .ok (.invokevirtual 188, 3) := by decide +kernel
theorem d_X10_resume_10 : decode c_X10_resume 10 = .ok (.istore_n 2, 1) := by decide +kernel
theorem d_X10_resume_11 : decode c_X10_resume 11 = .ok (.aload_n 0, 1) := by decide +kernel
theorem d_X10_resume_12 : decode c_X10_resume 12 = .ok (.getfield 175, 3) := by decide +kernel
theorem d_X10_resume_15 : decode c_X10_resume 15 = .ok (.ifCond .eq 20, 3) := by decide +kernel
theorem d_X10_resume_18 : decode c_X10_resume 18 = .ok (.iload_n 2, 1) := by decide +kernel
theorem d_X10_resume_19 : decode c_X10_resume 19 = .ok (.iconst 5, 1) := by decide +kernel
theorem d_X10_resume_20 : decode c_X10_resume 20 = .ok (.if_icmp .ne 13, 3) := by decide +kernel
theorem d_X10_resume_23 : decode c_X10_resume 23 = .ok (.aload_n 0, 1) := by decide +kernel
theorem d_X10_resume_24 : decode c_X10_resume 24 = .ok (.iconst 0, 1) := by decide +kernel
theorem d_X10_resume_25 : decode c_X10_resume 25 = .ok (.aload_n 0, 1) := by decide +kernel
theorem d_X10_resume_26 : decode c_X10_resume 26 = .ok (.getfield 178, 3) := by decide +kernel
theorem d_X10_resume_29 : decode c_X10_resume 29 = .ok (.ineg, 1) := by decide +kernel
theorem d_X10_resume_30 : decode c_X10_resume 30 = .ok (.invokevirtual 184, 3) := by decide +kernel
theorem d_X10_resume_33 : decode c_X10_resume 33 = .ok (.iconst 0, 1) := by decide +kernel
theorem d_X10_resume_34 : decode c_X10_resume 34 = .ok (.ireturn, 1) := by decide +kernel
theorem d_X10_resume_35 : decode c_X10_resume 35 = .ok (.iload_n 2, 1) := by decide +kernel
theorem d_X10_resume_36 : decode c_X10_resume 36 = .ok (.iconst 1, 1) := by decide +kernel
theorem d_X10_resume_37 : decode c_X10_resume 37 = .ok (.if_icmp .ne 32, 3) := by decide +kernel
theorem d_X10_resume_40 : decode c_X10_resume 40 = .ok (.aload_n 0, 1) := by decide +kernel
theorem d_X10_resume_41 : decode c_X10_resume 41 = .ok (.getfield 83, 3) := by decide +kernel
theorem d_X10_resume_44 : decode c_X10_resume 44 = .ok (.iload_n 1, 1) := by decide +kernel
theorem d_X10_resume_45 : decode c_X10_resume 45 = .ok (.iaload, 1) := by decide +kernel
theorem d_X10_resume_46 : decode c_X10_resume 46 = .ok (.iconst 1, 1) := by decide +kernel
theorem d_X10_resume_47 : decode c_X10_resume 47 = .ok (.if_icmp .ne 22, 3) := by decide +kernel
theorem d_X10_resume_50 : decode c_X10_resume 50 = .ok (.aload_n 0, 1) := by decide +kernel
theorem d_X10_resume_51 : decode c_X10_resume 51 = .ok (.getfield 83, 3) := by decide +kernel
theorem d_X10_resume_54 : decode c_X10_resume 54 = .ok (.iload_n 1, 1) := by decide +kernel
theorem d_X10_resume_55 : decode c_X10_resume 55 = .ok (.iconst 2, 1) := by decide +kernel
theorem d_X10_resume_56 : decode c_X10_resume 56 = .ok (.iastore, 1) := by decide +kernel
theorem d_X10_resume_57 : decode c_X10_resume 57 = .ok (.aload_n 0, 1) := by decide +kernel
theorem d_X10_resume_58 : decode c_X10_resume 58 = .ok (.getfield 86, 3) := by decide +kernel
theorem d_X10_resume_61 : decode c_X10_resume 61 = .ok (.iload_n 1, 1) := by decide +kernel
theorem d_X10_resume_62 : decode c_X10_resume 62 = .ok (.aload_n 0, 1) := by decide +kernel
theorem d_X10_resume_63 : decode c_X10_resume 63 = .ok (.getfield 178, 3) := by decide +kernel
theorem d_X10_resume_66 : decode c_X10_resume 66 = .ok (.iastore, 1) := by decide +kernel
theorem d_X10_resume_67 : decode c_X10_resume 67 = .ok (.iconst 1, 1) := by decide +kernel
theorem d_X10_resume_68 : decode c_X10_resume 68 = .ok (.ireturn, 1) := by decide +kernel
theorem d_X10_resume_69 : decode c_X10_resume 69 = .ok (.aload_n 0, 1) := by decide +kernel
theorem d_X10_resume_70 : decode c_X10_resume 70 = .ok (.iload_n 2, 1) := by decide +kernel
theorem d_X10_resume_71 : decode c_X10_resume 71 = .ok (.iconst 1, 1) := by decide +kernel
theorem d_X10_resume_72 : decode c_X10_resume 72 = .ok (.if_icmp .ne 17, 3) := by decide +kernel
theorem d_X10_resume_75 : decode c_X10_resume 75 = .ok (.aload_n 0, 1) := by decide +kernel
theorem d_X10_resume_76 : decode c_X10_resume 76 = .ok (.getfield 86, 3) := by decide +kernel
theorem d_X10_resume_79 : decode c_X10_resume 79 = .ok (.iload_n 1, 1) := by decide +kernel
theorem d_X10_resume_80 : decode c_X10_resume 80 = .ok (.iaload, 1) := by decide +kernel
theorem d_X10_resume_81 : decode c_X10_resume 81 = .ok (.aload_n 0, 1) := by decide +kernel
theorem d_X10_resume_82 : decode c_X10_resume 82 = .ok (.getfield 178, 3) := by decide +kernel
theorem d_X10_resume_85 : decode c_X10_resume 85 = .ok (.iadd, 1) := by decide +kernel
theorem d_X10_resume_86 : decode c_X10_resume 86 = .ok (.goto 21, 3) := by decide +kernel
theorem d_X10_resume_89 : decode c_X10_resume 89 = .ok (.iload_n 2, 1) := by decide +kernel
theorem d_X10_resume_90 : decode c_X10_resume 90 = .ok (.iconst 3, 1) := by decide +kernel
theorem d_X10_resume_91 : decode c_X10_resume 91 = .ok (.if_icmp .ne 12, 3) := by decide +kernel
theorem d_X10_resume_94 : decode c_X10_resume 94 = .ok (.iconst 2, 1) := by decide +kernel
theorem d_X10_resume_95 : decode c_X10_resume 95 = .ok (.aload_n 0, 1) := by decide +kernel
theorem d_X10_resume_96 : decode c_X10_resume 96 = .ok (.getfield 178, 3) := by decide +kernel
theorem d_X10_resume_99 : decode c_X10_resume 99 = .ok (.imul, 1) := by decide +kernel
theorem d_X10_resume_100 : decode c_X10_resume 100 = .ok (.goto 7, 3) := by decide +kernel
theorem d_X10_resume_103 : decode c_X10_resume 103 = .ok (.aload_n 0, 1) := by decide +kernel
theorem d_X10_resume_104 : decode c_X10_resume 104 = .ok (.getfield 178, 3) := by decide +kernel
theorem d_X10_resume_107 : decode c_X10_resume 107 = .ok (.putfield 178, 3) := by decide +kernel
theorem d_X10_resume_110 : decode c_X10_resume 110 = .ok (.iconst 0, 1) := by decide +kernel
theorem d_X10_resume_111 : decode c_X10_resume 111 = .ok (.ireturn, 1) := by decide +kernel
theorem d_X10_invoke_0 : decode c_X10_invoke 0 = .ok (.aload_n 0, 1) := by decide +kernel
theorem d_X10_invoke_1 : decode c_X10_invoke 1 = .ok (.iload_n 1, 1) := by decide +kernel
theorem d_X10_invoke_2 : decode c_X10_invoke 2 = .ok (.iload_n 2, 1) := by decide +kernel
theorem d_X10_invoke_3 : decode c_X10_invoke 3 = .ok (.invokevirtual 172, 3) := by decide +kernel
theorem d_X10_invoke_6 : decode c_X10_invoke 6 = .ok (.istore 4, 2) := by decide +kernel
theorem d_X10_invoke_8 : decode c_X10_invoke 8 = .ok (.iload 4, 2) := by decide +kernel
theorem d_X10_invoke_10 : decode c_X10_invoke 10 = .ok (.ifCond .ge 6, 3) := by decide +kernel
theorem d_X10_invoke_13 : decode c_X10_invoke 13 = .ok (.iload 4, 2) := by decide +kernel
theorem d_X10_invoke_15 : decode c_X10_invoke 15 = .ok (.ireturn, 1) := by decide +kernel
theorem d_X10_invoke_16 : decode c_X10_invoke 16 = .ok (.aload_n 0, 1) := by decide +kernel
theorem d_X10_invoke_17 : decode c_X10_invoke 17 = .ok (.iconst 0, 1) := by decide +kernel
theorem d_X10_invoke_18 : decode c_X10_invoke 18 = .ok (.putfield 112, 3) := by decide +kernel
theorem d_X10_invoke_21 : decode c_X10_invoke 21 = .ok (.aload_n 0, 1) := by decide +kernel
theorem d_X10_invoke_22 : decode c_X10_invoke 22 = .ok (.iload_n 2, 1) := by decide +kernel
theorem d_X10_invoke_23 : decode c_X10_invoke 23 = .ok (.iconst 4, 1) := by decide +kernel
theorem d_X10_invoke_24 : decode c_X10_invoke 24 = .ok (.if_icmp .ge 7, 3) := by decide +kernel
theorem d_X10_invoke_27 : decode c_X10_invoke 27 = .ok (.iload_n 3, 1) := by decide +kernel
theorem d_X10_invoke_28 : decode c_X10_invoke 28 = .ok (.goto 4, 3) := by decide +kernel
theorem d_X10_invoke_31 : decode c_X10_invoke 31 = .ok (.iconst 0, 1) := by decide +kernel
theorem d_X10_invoke_32 : decode c_X10_invoke 32 = .ok (.putfield 181, 3) := by decide +kernel
theorem d_X10_invoke_35 : decode c_X10_invoke 35 = .ok (.iconst 0, 1) := by decide +kernel
theorem d_X10_invoke_36 : decode c_X10_invoke 36 = .ok (.istore 5, 2) := by decide +kernel
theorem d_X10_invoke_38 : decode c_X10_invoke 38 = .ok (.iconst 1, 1) := by decide +kernel
theorem d_X10_invoke_39 : decode c_X10_invoke 39 = .ok (.istore 6, 2) := by decide +kernel
theorem d_X10_invoke_41 : decode c_X10_invoke 41 = .ok (.iload 5, 2) := by decide +kernel
theorem d_X10_invoke_43 : decode c_X10_invoke 43 = .ok (.ifCond .lt 121, 3) := by decide +kernel
theorem d_X10_invoke_46 : decode c_X10_invoke 46 = .ok (.iload 6, 2) := by decide +kernel
theorem d_X10_invoke_48 : decode c_X10_invoke 48 = .ok (.ifCond .eq 25, 3) := by decide +kernel
theorem d_X10_invoke_51 : decode c_X10_invoke 51 = .ok (.aload_n 0, 1) := by decide +kernel
theorem d_X10_invoke_52 : decode c_X10_invoke 52 = .ok (.getfield 112, 3) := by decide +kernel
theorem d_X10_invoke_55 : decode c_X10_invoke 55 = .ok (.bipush 64, 2) := by decide +kernel
theorem d_X10_invoke_57 : decode c_X10_invoke 57 = .ok (.if_icmp .ne 16, 3) := by decide +kernel
theorem d_X10_invoke_60 : decode c_X10_invoke 60 = .ok (.aload_n 0, 1) := by decide +kernel
theorem d_X10_invoke_61 : decode c_X10_invoke 61 = .ok (.iconst 1, 1) := by decide +kernel
theorem d_X10_invoke_62 : decode c_X10_invoke 62 = .ok (.bipush 99, 2) := by decide +kernel
theorem d_X10_invoke_64 : decode c_X10_invoke 64 = .ok (.invokevirtual 184, 3) := by decide +kernel
theorem d_X10_invoke_67 : decode c_X10_invoke 67 = .ok (.iconst (-1), 1) := by decide +kernel
theorem d_X10_invoke_68 : decode c_X10_invoke 68 = .ok (.istore 5, 2) := by decide +kernel
theorem d_X10_invoke_70 : decode c_X10_invoke 70 = .ok (.goto (-29), 3) := by decide +kernel
theorem d_X10_invoke_73 : decode c_X10_invoke 73 = .ok (.iload 6, 2) := by decide +kernel
theorem d_X10_invoke_75 : decode c_X10_invoke 75 = .ok (.ifCond .eq 60, 3) := by decide +kernel
theorem d_X10_invoke_78 : decode c_X10_invoke 78 = .ok (.aload_n 0, 1) := by decide +kernel
theorem d_X10_invoke_79 : decode c_X10_invoke 79 = .ok (.getfield 89, 3) := by decide +kernel
theorem d_X10_invoke_82 : decode c_X10_invoke 82 = .ok (.aload_n 0, 1) := by decide +kernel
theorem d_X10_invoke_83 : decode c_X10_invoke 83 = .ok (.getfield 112, 3) := by decide +kernel
theorem d_X10_invoke_86 : decode c_X10_invoke 86 = .ok (.aload_n 0, 1) := by decide +kernel
theorem d_X10_invoke_87 : decode c_X10_invoke 87 = .ok (.getfield 77, 3) := by decide +kernel
theorem d_X10_invoke_90 : decode c_X10_invoke 90 = .ok (.iload 5, 2) := by decide +kernel
theorem d_X10_invoke_92 : decode c_X10_invoke 92 = .ok (.iaload, 1) := by decide +kernel
theorem d_X10_invoke_93 : decode c_X10_invoke 93 = .ok (.iastore, 1) := by decide +kernel
theorem d_X10_invoke_94 : decode c_X10_invoke 94 = .ok (.aload_n 0, 1) := by decide +kernel
theorem d_X10_invoke_95 : decode c_X10_invoke 95 = .ok (.dup, 1) := by decide +kernel
theorem d_X10_invoke_96 : decode c_X10_invoke 96 = .ok (.getfield 112, 3) := by decide +kernel
theorem d_X10_invoke_99 : decode c_X10_invoke 99 = .ok (.iconst 1, 1) := by decide +kernel
theorem d_X10_invoke_100 : decode c_X10_invoke 100 = .ok (.iadd, 1) := by decide +kernel
theorem d_X10_invoke_101 : decode c_X10_invoke 101 = .ok (.putfield 112, 3) := by decide +kernel
theorem d_X10_invoke_104 : decode c_X10_invoke 104 = .ok (.aload_n 0, 1) := by decide +kernel
theorem d_X10_invoke_105 : decode c_X10_invoke 105 = .ok (.iload 5, 2) := by decide +kernel
theorem d_X10_invoke_107 : decode c_X10_invoke 107 = .ok (.iload_n 1, 1) := by decide +kernel
theorem d_X10_invoke_108 : decode c_X10_invoke 108 = .ok (.iload_n 2, 1) := by decide +kernel
theorem d_X10_invoke_109 : decode c_X10_invoke 109 = .ok (.invokevirtual 192, 3) := by decide +kernel
theorem d_X10_invoke_112 : decode c_X10_invoke 112 = .ok (.istore 6, 2) := by decide +kernel
theorem d_X10_invoke_114 : decode c_X10_invoke 114 = .ok (.iload 6, 2) := by decide +kernel
theorem d_X10_invoke_116 : decode c_X10_invoke 116 = .ok (.ifCond .eq 10, 3) := by decide +kernel
theorem d_X10_invoke_119 : decode c_X10_invoke 119 = .ok (.iload 5, 2) := by decide +kernel
theorem d_X10_invoke_121 : decode c_X10_invoke 121 = .ok (.iconst 1, 1) := by decide +kernel
theorem d_X10_invoke_122 : decode c_X10_invoke 122 = .ok (.iadd, 1) := by decide +kernel
theorem d_X10_invoke_123 : decode c_X10_invoke 123 = .ok (.goto 7, 3) := by decide +kernel
theorem d_X10_invoke_126 : decode c_X10_invoke 126 = .ok (.iload 5, 2) := by decide +kernel
theorem d_X10_invoke_128 : decode c_X10_invoke 128 = .ok (.iconst 1, 1) := by decide +kernel
theorem d_X10_invoke_129 : decode c_X10_invoke 129 = .ok (.isub, 1) := by decide +kernel
theorem d_X10_invoke_130 : decode c_X10_invoke 130 = .ok (.istore 5, 2) := by decide +kernel
theorem d_X10_invoke_132 : decode c_X10_invoke 132 = .ok (.goto (-91), 3) := by decide +kernel
theorem d_X10_invoke_135 : decode c_X10_invoke 135 = .ok (.aload_n 0, 1) := by decide +kernel
theorem d_X10_invoke_136 : decode c_X10_invoke 136 = .ok (.iload 5, 2) := by decide +kernel
theorem d_X10_invoke_138 : decode c_X10_invoke 138 = .ok (.invokevirtual 196, 3) := by decide +kernel
theorem d_X10_invoke_141 : decode c_X10_invoke 141 = .ok (.istore 6, 2) := by decide +kernel
theorem d_X10_invoke_143 : decode c_X10_invoke 143 = .ok (.iload 6, 2) := by decide +kernel
theorem d_X10_invoke_145 : decode c_X10_invoke 145 = .ok (.ifCond .eq 10, 3) := by decide +kernel
theorem d_X10_invoke_148 : decode c_X10_invoke 148 = .ok (.iload 5, 2) := by decide +kernel
theorem d_X10_invoke_150 : decode c_X10_invoke 150 = .ok (.iconst 1, 1) := by decide +kernel
theorem d_X10_invoke_151 : decode c_X10_invoke 151 = .ok (.iadd, 1) := by decide +kernel
theorem d_X10_invoke_152 : decode c_X10_invoke 152 = .ok (.goto 7, 3) := by decide +kernel
theorem d_X10_invoke_155 : decode c_X10_invoke 155 = .ok (.iload 5, 2) := by decide +kernel
theorem d_X10_invoke_157 : decode c_X10_invoke 157 = .ok (.iconst 1, 1) := by decide +kernel
theorem d_X10_invoke_158 : decode c_X10_invoke 158 = .ok (.isub, 1) := by decide +kernel
theorem d_X10_invoke_159 : decode c_X10_invoke 159 = .ok (.istore 5, 2) := by decide +kernel
theorem d_X10_invoke_161 : decode c_X10_invoke 161 = .ok (.goto (-120), 3) := by decide +kernel
theorem d_X10_invoke_164 : decode c_X10_invoke 164 = .ok (.aload_n 0, 1) := by decide +kernel
theorem d_X10_invoke_165 : decode c_X10_invoke 165 = .ok (.aload_n 0, 1) := by decide +kernel
theorem d_X10_invoke_166 : decode c_X10_invoke 166 = .ok (.getfield 175, 3) := by decide +kernel
theorem d_X10_invoke_169 : decode c_X10_invoke 169 = .ok (.ifCond .eq 7, 3) := by decide +kernel
theorem d_X10_invoke_172 : decode c_X10_invoke 172 = .ok (.iconst 0, 1) := by decide +kernel
theorem d_X10_invoke_173 : decode c_X10_invoke 173 = .ok (.goto 7, 3) := by decide +kernel
theorem d_X10_invoke_176 : decode c_X10_invoke 176 = .ok (.aload_n 0, 1) := by decide +kernel
theorem d_X10_invoke_177 : decode c_X10_invoke 177 = .ok (.getfield 178, 3) := by decide +kernel
theorem d_X10_invoke_180 : decode c_X10_invoke 180 = .ok (.putfield 115, 3) := by decide +kernel
theorem d_X10_invoke_183 : decode c_X10_invoke 183 = .ok (.aload_n 0, 1) := by decide +kernel
theorem d_X10_invoke_184 : decode c_X10_invoke 184 = .ok (.aload_n 0, 1) := by decide +kernel
theorem d_X10_invoke_185 : decode c_X10_invoke 185 = .ok (.getfield 175, 3) := by decide +kernel
theorem d_X10_invoke_188 : decode c_X10_invoke 188 = .ok (.ifCond .eq 10, 3) := by decide +kernel
theorem d_X10_invoke_191 : decode c_X10_invoke 191 = .ok (.aload_n 0, 1) := by decide +kernel
theorem d_X10_invoke_192 : decode c_X10_invoke 192 = .ok (.getfield 178, 3) := by decide +kernel
theorem d_X10_invoke_195 : decode c_X10_invoke 195 = .ok (.goto 4, 3) := by decide +kernel
theorem d_X10_invoke_198 : decode c_X10_invoke 198 = .ok (.iconst 0, 1) := by decide +kernel
theorem d_X10_invoke_199 : decode c_X10_invoke 199 = .ok (.putfield 118, 3) := by decide +kernel
theorem d_X10_invoke_202 : decode c_X10_invoke 202 = .ok (.aload_n 0, 1) := by decide +kernel
theorem d_X10_invoke_203 : decode c_X10_invoke 203 = .ok (.getfield 112, 3) := by decide +kernel
theorem d_X10_invoke_206 : decode c_X10_invoke 206 = .ok (.ireturn, 1) := by decide +kernel
theorem d_X10_result_0 : decode c_X10_result 0 = .ok (.aload_n 0, 1) := by decide +kernel
theorem d_X10_result_1 : decode c_X10_result 1 = .ok (.getfield 115, 3) := by decide +kernel
theorem d_X10_result_4 : decode c_X10_result 4 = .ok (.ireturn, 1) := by decide +kernel
theorem d_X10_error_0 : decode c_X10_error 0 = .ok (.aload_n 0, 1) := by decide +kernel
theorem d_X10_error_1 : decode c_X10_error 1 = .ok (.getfield 118, 3) := by decide +kernel
theorem d_X10_error_4 : decode c_X10_error 4 = .ok (.ireturn, 1) := by decide +kernel
theorem d_X10_log_0 : decode c_X10_log 0 = .ok (.iload_n 1, 1) := by decide +kernel
theorem d_X10_log_1 : decode c_X10_log 1 = .ok (.aload_n 0, 1) := by decide +kernel
theorem d_X10_log_2 : decode c_X10_log 2 = .ok (.getfield 112, 3) := by decide +kernel
theorem d_X10_log_5 : decode c_X10_log 5 = .ok (.iconst 1, 1) := by decide +kernel
theorem d_X10_log_6 : decode c_X10_log 6 = .ok (.isub, 1) := by decide +kernel
theorem d_X10_log_7 : decode c_X10_log 7 = .ok (.invokestatic 121, 3) := by decide +kernel
theorem d_X10_log_10 : decode c_X10_log 10 = .ok (.ifCond .eq 12, 3) := by decide +kernel
theorem d_X10_log_13 : decode c_X10_log 13 = .ok (.aload_n 0, 1) := by decide +kernel
theorem d_X10_log_14 : decode c_X10_log 14 = .ok (.getfield 89, 3) := by decide +kernel
theorem d_X10_log_17 : decode c_X10_log 17 = .ok (.iload_n 1, 1) := by decide +kernel
theorem d_X10_log_18 : decode c_X10_log 18 = .ok (.iaload, 1) := by decide +kernel
theorem d_X10_log_19 : decode c_X10_log 19 = .ok (.goto 5, 3) := by decide +kernel
theorem d_X10_log_22 : decode c_X10_log 22 = .ok (.bipush (-3), 2) := by decide +kernel
theorem d_X10_log_24 : decode c_X10_log 24 = .ok (.ireturn, 1) := by decide +kernel
end
section
/-! THE REFERENCE. Frames: of other families than fs, and of the object's other slots than js, nothing changes -/
def frG (fs js : List Nat) (μ μ' : Mem) : Prop := (∀ f, f ≠ 24 → f ∉ fs → μ' f = μ f) ∧ ∀ i j, ¬ (i = 0 ∧ j ∈ js) → μ' 24 i j = μ 24 i j
theorem frG.rf (fs js : List Nat) (μ : Mem) : frG fs js μ μ := ⟨fun _ _ _ => rfl, fun _ _ _ => rfl⟩
theorem frG.tr {fs js : List Nat} {μ μ1 μ2 : Mem} (h1 : frG fs js μ μ1) (h2 : frG fs js μ1 μ2) : frG fs js μ μ2 := ⟨fun f a b => (h2.1 f a b).trans (h1.1 f a b), fun i j a => (h2.2 i j a).trans (h1.2 i j a)⟩
theorem frG.up {fs js fs' js' : List Nat} {μ μ' : Mem} (h : frG fs js μ μ') (h1 : ∀ f, f ∈ fs → f ∈ fs') (h2 : ∀ j, j ∈ js → j ∈ js') : frG fs' js' μ μ' := ⟨fun f a b => h.1 f a (fun q => b (h1 f q)), fun i j a => h.2 i j (fun q => a ⟨q.1, h2 j q.2⟩)⟩
theorem frG_f {fs js : List Nat} {μ : Mem} {f i j : Nat} {x : Int32} (h : f ≠ 24) (hf : f ∈ fs) : frG fs js μ (mset μ f i j x) := ⟨fun g h1 h2 => mset_f (fun q => h2 (q ▸ hf)), fun a b _ => by rw [mset_f (Ne.symm h)]⟩
theorem frG_o {fs js : List Nat} {μ : Mem} {j : Nat} {x : Int32} (hj : j ∈ js) : frG fs js μ (mset μ 24 0 j x) := ⟨fun g h1 _ => mset_f h1, fun a b h => by
  by_cases e : a = 0
  · subst e
    exact mset_j (fun q => h ⟨rfl, q ▸ hj⟩)
  · rw [mset_i e]⟩
abbrev frC : Mem → Mem → Prop := frG [55, 56] [24]
abbrev frF : Mem → Mem → Prop := frG [55, 56, 58, 59] [24, 27]
abbrev frL : Mem → Mem → Prop := frG [55, 56, 58, 59, 61] [24, 27, 30]
theorem frC.f {μ μ' : Mem} (h : frC μ μ') : frF μ μ' := h.up (by decide) (by decide)
theorem frF.l {μ μ' : Mem} (h : frF μ μ') : frL μ μ' := h.up (by decide) (by decide)
/-- a list of pairs in two arrays, its length in a slot -/
def LIs (fT fV js : Nat) (μ : Mem) (l : PL) : Prop := μ 24 0 js = nI l.length ∧ ∀ (k : Nat) (q : Nat × Int32), l[k]? = some q → μ fT 0 k = nI q.1 ∧ μ fV 0 k = q.2
abbrev cIs : Mem → PL → Prop := LIs 55 56 24
abbrev fIs : Mem → PL → Prop := LIs 58 59 27
theorem LIs.keep {fT fV js : Nat} {μ μ' : Mem} {l : PL} (h : LIs fT fV js μ l) (h1 : μ' 24 0 js = μ 24 0 js) (h2 : μ' fT = μ fT) (h3 : μ' fV = μ fV) : LIs fT fV js μ' l := by
  unfold LIs
  rw [h1, h2, h3]
  exact h
theorem LIs.app {fT fV js : Nat} {μ : Mem} {l : PL} {t : Nat} {v : Int32} (h : LIs fT fV js μ l) (h1 : fT ≠ 24) (h2 : fV ≠ 24) (h3 : fT ≠ fV) : LIs fT fV js (mset (mset (mset μ fT 0 l.length (nI t)) fV 0 l.length v) 24 0 js (nI (l.length + 1))) (l ++ [(t, v)]) := by
  refine ⟨by rw [mset_at]; simp, fun k q hk => ?_⟩
  rw [mset_f h1, mset_f h3, mset_same, mset_f h2, mset_same, mset_f (Ne.symm h3)]
  by_cases e : k < l.length
  · rw [List.getElem?_append_left e] at hk
    have hne : ¬ k = l.length := by omega
    rw [upd_ne hne, upd_ne hne]
    exact h.2 k q hk
  · rw [List.getElem?_append_right (by omega)] at hk
    have hz : k - l.length < 1 := (List.getElem?_eq_some_iff.mp hk).1
    have e2 : k = l.length := by omega
    subst e2
    simp at hk
    subst hk
    rw [upd_at, upd_at]
    exact ⟨rfl, rfl⟩
theorem LIs.nil {fT fV js : Nat} {μ : Mem} (h : μ 24 0 js = 0) : LIs fT fV js μ [] := ⟨h, fun k q hk => by simp at hk⟩
/-- the reference's rows, as data -/
def mnb (μ : Mem) (r : Nat) : Nat := (μ 49 0 r).toNatClampNeg
def mbt (μ : Mem) (r k : Nat) : Nat := (μ 50 0 (4 * r + k)).toNatClampNeg
def mbv (μ : Mem) (r k : Nat) : Int32 := μ 51 0 (4 * r + k)
def mnc (μ : Mem) : Nat := (μ 24 0 3).toNatClampNeg
def mca (μ : Mem) (k : Nat) : Nat := (μ 34 0 k).toNatClampNeg
def mct (μ : Mem) (k : Nat) : Nat := (μ 35 0 k).toNatClampNeg
def mcw (μ : Mem) (k : Nat) : Int32 := μ 36 0 k
abbrev mPair (μ : Mem) (r : Nat) : Nat → Int32 → Prop := clPair (mnb μ r) (mbt μ r) (mbv μ r) (mnc μ) (mca μ) (mct μ) (mcw μ)
abbrev mConf (μ : Mem) (r : Nat) : Prop := clConf (mnb μ r) (mbt μ r) (mbv μ r) (mnc μ) (mca μ) (mct μ) (mcw μ)
abbrev mClOK (μ : Mem) (r : Nat) (l : PL) : Prop := mOK (mnb μ r) (mbt μ r) (mbv μ r) (mnc μ) (mca μ) (mct μ) (mcw μ) l
def mRow (μ : Mem) (r nt : Nat) : Prop := (μ 49 0 r = nI (mnb μ r) ∧ mnb μ r ≤ 4) ∧ ∀ k, k < mnb μ r → μ 50 0 (4 * r + k) = nI (mbt μ r k) ∧ mbt μ r k < nt
def mTyp (μ : Mem) (nt : Nat) : Prop := nt ≤ 8 ∧ (μ 24 0 3 = nI (mnc μ) ∧ mnc μ ≤ 16) ∧ ∀ k, k < mnc μ → (μ 34 0 k = nI (mca μ k) ∧ mca μ k < nt) ∧ μ 35 0 k = nI (mct μ k) ∧ mct μ k < nt
theorem ix4 (r k : Nat) : (4 : Int32) * nI r + nI k = nI (4 * r + k) := by
  rw [show (4 : Int32) = nI 4 from rfl, pk_mul, nI_add]
/-- what the closures' data read stays, when only closures, forces and chains are made -/
def frD (μ μ' : Mem) : Prop := (∀ f, f ∈ [34, 35, 36, 38, 39, 40, 42, 43, 44, 45, 47, 48, 49, 50, 51, 52, 53] → μ' f = μ f) ∧ ∀ j, j ∈ [1, 3, 7, 11, 16] → μ' 24 0 j = μ 24 0 j
theorem frL.d {μ μ' : Mem} (h : frL μ μ') : frD μ μ' := ⟨fun f hf => h.1 f (fun q => by subst q; revert hf; decide) (fun q => by
  simp only [List.mem_cons, List.not_mem_nil, or_false] at hf q
  omega), fun j hj => h.2 0 j (fun q => by
  simp only [List.mem_cons, List.not_mem_nil, or_false] at hj q
  omega)⟩
theorem frD.nb {μ μ' : Mem} (h : frD μ μ') (r : Nat) : mnb μ' r = mnb μ r := by unfold mnb; rw [h.1 49 (by decide)]
theorem frD.bt {μ μ' : Mem} (h : frD μ μ') (r : Nat) : mbt μ' r = mbt μ r := by funext k; unfold mbt; rw [h.1 50 (by decide)]
theorem frD.bv {μ μ' : Mem} (h : frD μ μ') (r : Nat) : mbv μ' r = mbv μ r := by funext k; unfold mbv; rw [h.1 51 (by decide)]
theorem frD.nc {μ μ' : Mem} (h : frD μ μ') : mnc μ' = mnc μ := by unfold mnc; rw [h.2 3 (by decide)]
theorem frD.ca {μ μ' : Mem} (h : frD μ μ') : mca μ' = mca μ := by funext k; unfold mca; rw [h.1 34 (by decide)]
theorem frD.ct {μ μ' : Mem} (h : frD μ μ') : mct μ' = mct μ := by funext k; unfold mct; rw [h.1 35 (by decide)]
theorem frD.cw {μ μ' : Mem} (h : frD μ μ') : mcw μ' = mcw μ := by funext k; unfold mcw; rw [h.1 36 (by decide)]
theorem frD.pair {μ μ' : Mem} (h : frD μ μ') (r : Nat) : mPair μ' r = mPair μ r := by unfold mPair; rw [h.nb, h.bt, h.bv, h.nc, h.ca, h.ct, h.cw]
theorem frD.conf {μ μ' : Mem} (h : frD μ μ') (r : Nat) : mConf μ' r = mConf μ r := by unfold mConf; rw [h.nb, h.bt, h.bv, h.nc, h.ca, h.ct, h.cw]
theorem frD.clok {μ μ' : Mem} (h : frD μ μ') (r : Nat) : mClOK μ' r = mClOK μ r := by funext l; unfold mClOK; rw [h.nb, h.bt, h.bv, h.nc, h.ca, h.ct, h.cw]
theorem frD.row {μ μ' : Mem} (h : frD μ μ') (r nt : Nat) : mRow μ' r nt = mRow μ r nt := by unfold mRow; rw [h.nb, h.bt, h.1 49 (by decide), h.1 50 (by decide)]
theorem frD.typ {μ μ' : Mem} (h : frD μ μ') (nt : Nat) : mTyp μ' nt = mTyp μ nt := by unfold mTyp; rw [h.nc, h.ca, h.ct, h.2 3 (by decide), h.1 34 (by decide), h.1 35 (by decide)]
theorem frD.tr {μ μ1 μ2 : Mem} (h1 : frD μ μ1) (h2 : frD μ1 μ2) : frD μ μ2 := ⟨fun f a => (h2.1 f a).trans (h1.1 f a), fun j a => (h2.2 j a).trans (h1.2 j a)⟩
theorem mOK_lt {μ : Mem} {r nt : Nat} {l : PL} (hT : mTyp μ nt) (hR : mRow μ r nt) (h : ∀ q, q ∈ l → mPair μ r q.1 q.2) : ∀ q, q ∈ l → q.1 ≤ 1000 := by
  intro q hq
  have := hT.1
  rcases h q hq with ⟨k, hk, e, -⟩ | ⟨k, hk, -, e, -⟩
  · have := (hR.2 k hk).2
    omega
  · have := (hT.2.2 k hk).2.2
    omega

set_option maxRecDepth 100000 in
set_option maxHeartbeats 4000000 in
/-- X10 within -/
theorem k_X10_within (l : Launch) (G : XG) (hI : XI G) (x n : Int32) (μ : Mem)  : XMet l G y_X10_within c_X10_within 2 (some .boolean) 0 [.inl x, .inl n] μ (fun r μ' => r = some (.inl (if x < 0 then 0 else if n < x then 0 else 1)) ∧ μ' = μ) := by
  refine xj_met (by decide) hI (Nat.le_of_ble_eq_true rfl) ?_
  intro p e s m args below meth c E hr hlk
  have E : XE G (xA G) RX10 c_X10_within 2 p s m args c := E
  refine xj_loc (L' := [some (.inl x), some (.inl n)]) rfl ?_
  refine xj_iload_n E d_X10_within_0 rfl ?_
  refine xj_if_lt (tgt := 13) E d_X10_within_1 (by decide) (fun h1 => ?_) (fun h1 => ?_)
  · refine xj_iconst (v := 0) E d_X10_within_13 (by decide) ?_
    exact xj_zret E hr hlk (by decide) d_X10_within_14 (by first | exact ⟨by rw [if_pos h1], rfl⟩ | exact ⟨by rw [if_neg h1, if_pos h6], rfl⟩ | exact ⟨by rw [if_neg h1, if_neg h6], rfl⟩)
  refine xj_iload_n E d_X10_within_4 rfl ?_
  refine xj_iload_n E d_X10_within_5 rfl ?_
  refine xj_icmp_gt (tgt := 13) E d_X10_within_6 (by decide) (fun h6 => ?_) (fun h6 => ?_)
  · refine xj_iconst (v := 0) E d_X10_within_13 (by decide) ?_
    exact xj_zret E hr hlk (by decide) d_X10_within_14 (by first | exact ⟨by rw [if_pos h1], rfl⟩ | exact ⟨by rw [if_neg h1, if_pos h6], rfl⟩ | exact ⟨by rw [if_neg h1, if_neg h6], rfl⟩)
  refine xj_iconst (v := 1) E d_X10_within_9 (by decide) ?_
  refine xj_goto (tgt := 14) E d_X10_within_10 (by decide) ?_
  exact xj_zret E hr hlk (by decide) d_X10_within_14 (by first | exact ⟨by rw [if_pos h1], rfl⟩ | exact ⟨by rw [if_neg h1, if_pos h6], rfl⟩ | exact ⟨by rw [if_neg h1, if_neg h6], rfl⟩)

set_option maxRecDepth 100000 in
set_option maxHeartbeats 4000000 in
/-- X10 add -/
theorem k_X10_add (l : Launch) (G : XG) (hI : XI G) (t : Nat) (v : Int32) (l0 : PL) (μ : Mem) (hc : cIs μ l0) (hl : l0.length ≤ 24) (ht : t ≤ 1000) (hty : ∀ q, q ∈ l0 → q.1 ≤ 1000) (hroom : (t, v) ∈ l0 ∨ l0.length < 24) : XMet l G y_X10_add c_X10_add 4 none 0 [.inr (24, 0), .inl (nI t), .inl v] μ (fun r μ' => r = none ∧ cIs μ' (mAdd t v l0) ∧ frC μ μ') := by
  refine xj_met (by decide) hI (Nat.le_of_ble_eq_true rfl) ?_
  intro p e s m args below meth c E hr hlk
  have E : XE G (xA G) RX10 c_X10_add 4 p s m args c := E
  refine xj_loc (L' := [some (.inr (24, 0)), some (.inl (nI t)), some (.inl v), none]) rfl ?_
  have hn24 := hl
  have lp : ∀ (Q : State → Prop) (n k : Nat), l0.length - k = n → k ≤ l0.length → (∀ (i : Nat) (q : Nat × Int32), i < k → l0[i]? = some q → q ≠ (t, v)) → ((∀ q, q ∈ l0 → q ≠ (t, v)) → XJ G (xA G) 4 p l e (xr 0) s m args below meth c 0 0 Q 37 [some (.inr (24, 0)), some (.inl (nI t)), some (.inl v), some (.inl (nI l0.length))] [] μ) → (∀ k, (t, v) ∈ l0 → XJ G (xA G) 4 p l e (xr 0) s m args below meth c 0 0 Q 30 [some (.inr (24, 0)), some (.inl (nI t)), some (.inl v), some (.inl (nI k))] [] μ) → XJ G (xA G) 4 p l e (xr 0) s m args below meth c 0 0 Q 2 [some (.inr (24, 0)), some (.inl (nI t)), some (.inl v), some (.inl (nI k))] [] μ := by
    intro Q n
    induction n using Nat.strongRecOn with
    | _ n ih =>
    intro k hn hk hinv hx hy
    refine xj_iload_n E d_X10_add_2 rfl ?_
    refine xj_aload_n E d_X10_add_3 rfl ?_
    refine xj_geti E fl_X10_133 (by decide) rfl (by decide) rfl d_X10_add_4 ?_
    refine xj_icmp_ge (tgt := 37) E d_X10_add_7 (by decide) (fun h7 => ?_) (fun h7 => ?_)
    · have hk8 : k = l0.length := by
        have := ge_nI (b := k) (by rw [← hc.1]; exact h7) (by omega) (by omega)
        omega
      subst hk8
      refine hx (fun q hq e => ?_)
      obtain ⟨i, hi⟩ := List.getElem?_of_mem hq
      exact hinv i q ((List.getElem?_eq_some_iff.mp hi).1) hi e
    have hlt : k < l0.length := ng_nI (b := k) (by rw [← hc.1]; exact h7) (by omega) (by omega)
    have hin : vp_in (nI k) 24 := in_nI (by omega) (by omega)
    have hcl : (nI k).toNatClampNeg = k := cl_nI (by omega)
    have hat := List.getElem?_eq_getElem hlt
    have hm := hc.2 k _ hat
    have hq1 := hty _ (List.getElem_mem hlt)
    refine xj_aload_n E d_X10_add_10 rfl ?_
    refine xj_geta E fl_X10_65 (by decide) rfl (by decide) rfl d_X10_add_11 ?_
    refine xj_iload_n E d_X10_add_14 rfl ?_
    refine xj_iald E (by decide) hin d_X10_add_15 ?_
    refine xj_iload_n E d_X10_add_16 rfl ?_
    refine xj_icmp_ne (tgt := 31) E d_X10_add_17 (by decide) (fun h17 => ?_) (fun h17 => ?_)
    · refine xj_iinc (v := nI (k + 1)) E d_X10_add_31 rfl (nI_inc k) rfl ?_
      refine xj_goto (tgt := 2) E d_X10_add_34 (by decide) ?_
      refine ih (l0.length - (k + 1)) (by omega) (k + 1) rfl (by omega) (fun i q hi hq e => ?_) hx hy
      by_cases z : i = k
      · subst z
        rw [hat] at hq
        have e1 : l0[i] = (t, v) := (Option.some.inj hq).trans e
        rw [e1] at hm
        rw [hcl] at h17
        first
          | (rw [hcl] at h27; exact h27 hm.2)
          | exact h17 hm.1
      · exact hinv i q (by omega) hq e
    refine xj_aload_n E d_X10_add_20 rfl ?_
    refine xj_geta E fl_X10_68 (by decide) rfl (by decide) rfl d_X10_add_21 ?_
    refine xj_iload_n E d_X10_add_24 rfl ?_
    refine xj_iald E (by decide) hin d_X10_add_25 ?_
    refine xj_iload_n E d_X10_add_26 rfl ?_
    refine xj_icmp_ne (tgt := 31) E d_X10_add_27 (by decide) (fun h27 => ?_) (fun h27 => ?_)
    · refine xj_iinc (v := nI (k + 1)) E d_X10_add_31 rfl (nI_inc k) rfl ?_
      refine xj_goto (tgt := 2) E d_X10_add_34 (by decide) ?_
      refine ih (l0.length - (k + 1)) (by omega) (k + 1) rfl (by omega) (fun i q hi hq e => ?_) hx hy
      by_cases z : i = k
      · subst z
        rw [hat] at hq
        have e1 : l0[i] = (t, v) := (Option.some.inj hq).trans e
        rw [e1] at hm
        rw [hcl] at h17
        first
          | (rw [hcl] at h27; exact h27 hm.2)
          | exact h17 hm.1
      · exact hinv i q (by omega) hq e
    refine hy k ?_
    rw [hcl] at h17 h27
    have e1 : (l0[k]).1 = t := (nI_eq (by omega) (by omega)).mp (hm.1.symm.trans h17)
    have e2 : (l0[k]).2 = v := hm.2.symm.trans h27
    have e3 : l0[k] = (t, v) := Prod.ext e1 e2
    rw [← e3]
    exact List.getElem_mem hlt
  refine xj_iconst (v := 0) E d_X10_add_0 (by decide) ?_
  refine xj_istore_n E d_X10_add_1 (by decide) rfl ?_
  refine lp _ l0.length 0 (by omega) (by omega) (fun i q hi => by omega) (fun hno => ?_) (fun k hyes => ?_)
  · have hnm : ¬ (t, v) ∈ l0 := fun q => hno _ q rfl
    have hlt : l0.length < 24 := hroom.resolve_left hnm
    have hin : vp_in (μ 24 0 24) 24 := by rw [hc.1]; exact in_nI hlt (by omega)
    have hcl : (μ 24 0 24).toNatClampNeg = l0.length := by rw [hc.1]; exact cl_nI (by omega)
    refine xj_aload_n E d_X10_add_37 rfl ?_
    refine xj_geta E fl_X10_65 (by decide) rfl (by decide) rfl d_X10_add_38 ?_
    refine xj_aload_n E d_X10_add_41 rfl ?_
    refine xj_geti E fl_X10_133 (by decide) rfl (by decide) rfl d_X10_add_42 ?_
    refine xj_iload_n E d_X10_add_45 rfl ?_
    refine xj_iast E (by decide) hin d_X10_add_46 ?_
    refine xj_aload_n E d_X10_add_47 rfl ?_
    refine xj_geta E fl_X10_68 (by decide) rfl (by decide) rfl d_X10_add_48 ?_
    refine xj_aload_n E d_X10_add_51 rfl ?_
    refine xj_geti E fl_X10_133 (by decide) rfl (by decide) rfl d_X10_add_52 ?_
    refine xj_iload_n E d_X10_add_55 rfl ?_
    refine xj_iast E (by decide) hin d_X10_add_56 ?_
    refine xj_aload_n E d_X10_add_57 rfl ?_
    refine xj_dup E d_X10_add_58 ?_
    refine xj_geti E fl_X10_133 (by decide) rfl (by decide) rfl d_X10_add_59 ?_
    refine xj_iconst (v := 1) E d_X10_add_62 (by decide) ?_
    refine xj_iadd E d_X10_add_63 ?_
    refine xj_put E fp_X10_133 (by decide) rfl (by decide) rfl (narrow_i _) d_X10_add_64 ?_
    exact xj_vret E hr hlk d_X10_add_67 (⟨rfl, by unfold mAdd; rw [if_neg hnm]; show cIs (mset (mset (mset μ 55 0 (μ 24 0 24).toNatClampNeg (nI t)) 56 0 (μ 24 0 24).toNatClampNeg v) 24 0 24 (μ 24 0 24 + 1)) _; rw [hcl, hc.1, nI_1]; exact hc.app (by decide) (by decide) (by decide), ((frG_f (by decide) (by decide)).tr (frG_f (by decide) (by decide))).tr (frG_o (by decide))⟩)
  · exact xj_vret E hr hlk d_X10_add_30 (⟨rfl, by unfold mAdd; rw [if_pos hyes]; exact hc, frG.rf _ _ _⟩)

theorem mAdd_pre {t : Nat} {v : Int32} {l : PL} {i : Nat} (h : i < l.length) : (mAdd t v l)[i]? = l[i]? := by
  rw [List.getElem?_eq_getElem h]
  exact mAdd_at (List.getElem?_eq_getElem h)

set_option maxRecDepth 100000 in
set_option maxHeartbeats 4000000 in
/-- X10 close -/
theorem k_X10_close (l : Launch) (G : XG) (hI : XI G) (r nt : Nat) (μ : Mem) (hr28 : r < 28) (hT : mTyp μ nt) (hR : mRow μ r nt) : XMet l G y_X10_close c_X10_close 4 none 1 [.inr (24, 0), .inl (nI r)] μ (fun rr μ' => rr = none ∧ ∃ l1 : PL, cIs μ' l1 ∧ mClOK μ r l1 ∧ l1.length ≤ mnb μ r + mnc μ ∧ frC μ μ') := by
  refine xj_met (by decide) hI (Nat.le_of_ble_eq_true rfl) ?_
  intro p e s m args below meth c E hr hlk
  have E : XE G (xA G) RX10 c_X10_close 4 p s m args c := E
  refine xj_loc (L' := [some (.inr (24, 0)), some (.inl (nI r)), none, none]) rfl ?_
  have hnt := hT.1
  have hc16 := hT.2.1.2
  have hb4 := hR.1.2
  have lp3 : ∀ (Q : State → Prop) (k n j : Nat) (μ1 : Mem) (l1 : PL) (q0 : Nat × Int32), mnc μ - j = n → j ≤ mnc μ → frC μ μ1 → cIs μ1 l1 → mSnd (mnb μ r) (mbt μ r) (mbv μ r) (mnc μ) (mca μ) (mct μ) (mcw μ) l1 → (∀ k', k' < mnb μ r → (mbt μ r k', mbv μ r k') ∈ l1) → (∀ (i : Nat) (q : Nat × Int32), i < k → l1[i]? = some q → ∀ j, j < mnc μ → mca μ j = q.1 → (mct μ j, mcw μ j) ∈ l1) → l1[k]? = some q0 → (∀ j', j' < j → mca μ j' = q0.1 → (mct μ j', mcw μ j') ∈ l1) → (∀ (μ2 : Mem) (l2 : PL), frC μ μ2 → cIs μ2 l2 → mSnd (mnb μ r) (mbt μ r) (mbv μ r) (mnc μ) (mca μ) (mct μ) (mcw μ) l2 → (∀ k', k' < mnb μ r → (mbt μ r k', mbv μ r k') ∈ l2) → (∀ (i : Nat) (q : Nat × Int32), i < k + 1 → l2[i]? = some q → ∀ j, j < mnc μ → mca μ j = q.1 → (mct μ j, mcw μ j) ∈ l2) → k + 1 ≤ l2.length → XJ G (xA G) 4 p l e (xr 1) s m args below meth c 0 0 Q 104 [some (.inr (24, 0)), some (.inl (nI r)), some (.inl (nI k)), none] [] μ2) → XJ G (xA G) 4 p l e (xr 1) s m args below meth c 0 0 Q 59 [some (.inr (24, 0)), some (.inl (nI r)), some (.inl (nI k)), some (.inl (nI j))] [] μ1 := by
    intro Q k n
    induction n using Nat.strongRecOn with
    | _ n ih =>
    intro j μ1 l1 q0 hn hj hfr hc hs hb hcl hq0 hinv hx
    have hlen := hs.len
    have hkl : k < l1.length := (List.getElem?_eq_some_iff.mp hq0).1
    have e3 : μ1 24 0 3 = nI (mnc μ) := (hfr.2 0 3 (by decide)).trans hT.2.1.1
    have hty := mOK_lt hT hR hs.2.1
    have hq01 := hty _ (List.mem_of_getElem? hq0)
    refine xj_iload_n E d_X10_close_59 rfl ?_
    refine xj_aload_n E d_X10_close_60 rfl ?_
    refine xj_geti E fl_X10_100 (by decide) rfl (by decide) rfl d_X10_close_61 ?_
    refine xj_icmp_ge (tgt := 104) E d_X10_close_64 (by decide) (fun h64 => ?_) (fun h64 => ?_)
    · have hk8 : j = mnc μ := by
        have := ge_nI (b := j) (by rw [← e3]; exact h64) (by omega) (by omega)
        omega
      subst hk8
      refine xj_forget 3 ?_
      exact hx _ l1 hfr hc hs hb (fun i q hi hq j' hj' e => by
        by_cases z : i = k
        · subst z
          rw [hq0] at hq
          cases hq
          exact hinv j' hj' e
        · exact hcl i q (by omega) hq j' hj' e) hkl
    have hlt : j < mnc μ := ng_nI (b := j) (by rw [← e3]; exact h64) (by omega) (by omega)
    have hin : vp_in (nI j) 16 := in_nI (by omega) (by omega)
    have hcj : (nI j).toNatClampNeg = j := cl_nI (by omega)
    have hck : (nI k).toNatClampNeg = k := cl_nI (by omega)
    have hcar := hT.2.2 j hlt
    have e34 := hfr.1 34 (by decide) (by decide)
    have e35 := hfr.1 35 (by decide) (by decide)
    have e36 := hfr.1 36 (by decide) (by decide)
    refine xj_aload_n E d_X10_close_67 rfl ?_
    refine xj_geta E fl_X10_13 (by decide) rfl (by decide) rfl d_X10_close_68 ?_
    refine xj_iload_n E d_X10_close_71 rfl ?_
    refine xj_iald E (by decide) hin d_X10_close_72 ?_
    refine xj_aload_n E d_X10_close_73 rfl ?_
    refine xj_geta E fl_X10_65 (by decide) rfl (by decide) rfl d_X10_close_74 ?_
    refine xj_iload_n E d_X10_close_77 rfl ?_
    refine xj_iald E (by decide) (show vp_in (nI k) 24 from in_nI (by omega) (by omega)) d_X10_close_78 ?_
    refine xj_icmp_ne (tgt := 98) E d_X10_close_79 (by decide) (fun h79 => ?_) (fun h79 => ?_)
    · refine xj_iinc (v := nI (j + 1)) E d_X10_close_98 rfl (nI_inc j) rfl ?_
      refine xj_goto (tgt := 59) E d_X10_close_101 (by decide) ?_
      first
        | exact ih (mnc μ - (j + 1)) (by omega) (j + 1) _ (mAdd (mct μ j) (mcw μ j) l1) q0 rfl (by omega) (hfr.tr hfr2) hc2 (hs.add _ _ _ _ _ _ _ hpr hcd) (fun k' hk' => mAdd_keep (hb k' hk')) (fun i q hi hq j' hj' e => mAdd_keep (hcl i q hi (by rw [mAdd_pre (by omega)] at hq; exact hq) j' hj' e)) (mAdd_at hq0) (fun j' hj' e => by
            by_cases z : j' = j
            · subst z; exact mAdd_mem
            · exact mAdd_keep (hinv j' (by omega) e)) hx
        | exact ih (mnc μ - (j + 1)) (by omega) (j + 1) _ l1 q0 rfl (by omega) hfr hc hs hb hcl hq0 (fun j' hj' e => by
            by_cases z : j' = j
            · subst z
              exfalso
              apply h79
              rw [hcj, hck, e34, hcar.1.1, (hc.2 k q0 hq0).1, e]
            · exact hinv j' (by omega) e) hx
    refine xj_aload_n E d_X10_close_82 rfl ?_
    refine xj_aload_n E d_X10_close_83 rfl ?_
    refine xj_geta E fl_X10_17 (by decide) rfl (by decide) rfl d_X10_close_84 ?_
    refine xj_iload_n E d_X10_close_87 rfl ?_
    refine xj_iald E (by decide) hin d_X10_close_88 ?_
    refine xj_aload_n E d_X10_close_89 rfl ?_
    refine xj_geta E fl_X10_20 (by decide) rfl (by decide) rfl d_X10_close_90 ?_
    refine xj_iload_n E d_X10_close_93 rfl ?_
    refine xj_iald E (by decide) hin d_X10_close_94 ?_
    refine xj_st (st' := [.inl (mcw μ j), .inl (nI (mct μ j)), .inr (24, 0)]) (by rw [hcj, e35, e36, hcar.2.1]; try rfl) ?_
    have hreq : mca μ j = q0.1 := by
      rw [hcj, hck, e34, hcar.1.1, (hc.2 k q0 hq0).1] at h79
      exact (nI_eq (by omega) (by omega)).mp h79
    have hpr : clPair (mnb μ r) (mbt μ r) (mbv μ r) (mnc μ) (mca μ) (mct μ) (mcw μ) (mct μ j) (mcw μ j) := Or.inr ⟨j, hlt, by rw [hreq]; exact (hs.2.1 _ (List.mem_of_getElem? hq0)).reach, rfl, rfl⟩
    have hcd := mCand_c (mnb μ r) (mbt μ r) (mbv μ r) (mnc μ) (mct μ) (mcw μ) hlt
    refine xj_callV E (k_X10_add l G hI (mct μ j) (mcw μ j) l1 _ hc (by omega) (by omega) hty (Classical.byCases (p := (mct μ j, mcw μ j) ∈ l1) Or.inl (fun z => Or.inr (by have := hs.room _ _ _ _ _ _ _ hpr hcd z; omega)))) cw_X10_136 cv_X10_add (by decide) rfl rfl rfl ⟨by decide, by decide⟩ (Nat.le_of_ble_eq_true rfl) d_X10_close_95 ⟨Nat.zero_le _, Nat.zero_le _⟩ (fun r95 μ95 ho95 hp95 => ?_)
    obtain ⟨rfl, hc2, hfr2⟩ := hp95
    refine xj_iinc (v := nI (j + 1)) E d_X10_close_98 rfl (nI_inc j) rfl ?_
    refine xj_goto (tgt := 59) E d_X10_close_101 (by decide) ?_
    first
      | exact ih (mnc μ - (j + 1)) (by omega) (j + 1) _ (mAdd (mct μ j) (mcw μ j) l1) q0 rfl (by omega) (hfr.tr hfr2) hc2 (hs.add _ _ _ _ _ _ _ hpr hcd) (fun k' hk' => mAdd_keep (hb k' hk')) (fun i q hi hq j' hj' e => mAdd_keep (hcl i q hi (by rw [mAdd_pre (by omega)] at hq; exact hq) j' hj' e)) (mAdd_at hq0) (fun j' hj' e => by
          by_cases z : j' = j
          · subst z; exact mAdd_mem
          · exact mAdd_keep (hinv j' (by omega) e)) hx
      | exact ih (mnc μ - (j + 1)) (by omega) (j + 1) _ l1 q0 rfl (by omega) hfr hc hs hb hcl hq0 (fun j' hj' e => by
          by_cases z : j' = j
          · subst z
            exfalso
            apply h79
            rw [hcj, hck, e34, hcar.1.1, (hc.2 k q0 hq0).1, e]
          · exact hinv j' (by omega) e) hx
  have lp2 : ∀ (Q : State → Prop) (n k : Nat) (μ1 : Mem) (l1 : PL), mnb μ r + mnc μ - k = n → k ≤ l1.length → frC μ μ1 → cIs μ1 l1 → mSnd (mnb μ r) (mbt μ r) (mbv μ r) (mnc μ) (mca μ) (mct μ) (mcw μ) l1 → (∀ k', k' < mnb μ r → (mbt μ r k', mbv μ r k') ∈ l1) → (∀ (i : Nat) (q : Nat × Int32), i < k → l1[i]? = some q → ∀ j, j < mnc μ → mca μ j = q.1 → (mct μ j, mcw μ j) ∈ l1) → (∀ (μ2 : Mem) (l2 : PL) (k : Nat), frC μ μ2 → cIs μ2 l2 → mSnd (mnb μ r) (mbt μ r) (mbv μ r) (mnc μ) (mca μ) (mct μ) (mcw μ) l2 → (∀ k', k' < mnb μ r → (mbt μ r k', mbv μ r k') ∈ l2) → (∀ (i : Nat) (q : Nat × Int32), i < l2.length → l2[i]? = some q → ∀ j, j < mnc μ → mca μ j = q.1 → (mct μ j, mcw μ j) ∈ l2) → XJ G (xA G) 4 p l e (xr 1) s m args below meth c 0 0 Q 110 [some (.inr (24, 0)), some (.inl (nI r)), some (.inl (nI k)), none] [] μ2) → XJ G (xA G) 4 p l e (xr 1) s m args below meth c 0 0 Q 49 [some (.inr (24, 0)), some (.inl (nI r)), some (.inl (nI k)), none] [] μ1 := by
    intro Q n
    induction n using Nat.strongRecOn with
    | _ n ih =>
    intro k μ1 l1 hn hk hfr hc hs hb hcl hx
    have hlen := hs.len
    refine xj_iload_n E d_X10_close_49 rfl ?_
    refine xj_aload_n E d_X10_close_50 rfl ?_
    refine xj_geti E fl_X10_133 (by decide) rfl (by decide) rfl d_X10_close_51 ?_
    refine xj_icmp_ge (tgt := 110) E d_X10_close_54 (by decide) (fun h54 => ?_) (fun h54 => ?_)
    · have hk8 : k = l1.length := by
        have := ge_nI (b := k) (by rw [← hc.1]; exact h54) (by omega) (by omega)
        omega
      subst hk8
      exact hx _ l1 _ hfr hc hs hb hcl
    have hlt : k < l1.length := ng_nI (b := k) (by rw [← hc.1]; exact h54) (by omega) (by omega)
    refine xj_iconst (v := 0) E d_X10_close_57 (by decide) ?_
    refine xj_istore_n E d_X10_close_58 (by decide) rfl ?_
    refine lp3 Q k (mnc μ) 0 μ1 l1 _ (by omega) (by omega) hfr hc hs hb hcl (List.getElem?_eq_getElem hlt) (fun j' hj' => by omega) (fun μ2 l2 hfr2 hc2 hs2 hb2 hcl2 hk2 => ?_)
    refine xj_iinc (v := nI (k + 1)) E d_X10_close_104 rfl (nI_inc k) rfl ?_
    refine xj_goto (tgt := 49) E d_X10_close_107 (by decide) ?_
    exact ih (mnb μ r + mnc μ - (k + 1)) (by omega) (k + 1) _ l2 rfl hk2 hfr2 hc2 hs2 hb2 hcl2 hx
  have lp1 : ∀ (Q : State → Prop) (n k : Nat) (μ1 : Mem) (l1 : PL), mnb μ r - k = n → k ≤ mnb μ r → frC μ μ1 → cIs μ1 l1 → mSnd (mnb μ r) (mbt μ r) (mbv μ r) (mnc μ) (mca μ) (mct μ) (mcw μ) l1 → (∀ k', k' < k → (mbt μ r k', mbv μ r k') ∈ l1) → (∀ (μ2 : Mem) (l2 : PL), frC μ μ2 → cIs μ2 l2 → mSnd (mnb μ r) (mbt μ r) (mbv μ r) (mnc μ) (mca μ) (mct μ) (mcw μ) l2 → (∀ k', k' < mnb μ r → (mbt μ r k', mbv μ r k') ∈ l2) → XJ G (xA G) 4 p l e (xr 1) s m args below meth c 0 0 Q 47 [some (.inr (24, 0)), some (.inl (nI r)), some (.inl (nI (mnb μ r))), none] [] μ2) → XJ G (xA G) 4 p l e (xr 1) s m args below meth c 0 0 Q 7 [some (.inr (24, 0)), some (.inl (nI r)), some (.inl (nI k)), none] [] μ1 := by
    intro Q n
    induction n using Nat.strongRecOn with
    | _ n ih =>
    intro k μ1 l1 hn hk hfr hc hs hinv hx
    have hlen := hs.len
    have hty := mOK_lt hT hR hs.2.1
    have e49 := hfr.1 49 (by decide) (by decide)
    have hcr : (nI r).toNatClampNeg = r := cl_nI (by omega)
    refine xj_iload_n E d_X10_close_7 rfl ?_
    refine xj_aload_n E d_X10_close_8 rfl ?_
    refine xj_geta E fl_X10_50 (by decide) rfl (by decide) rfl d_X10_close_9 ?_
    refine xj_iload_n E d_X10_close_12 rfl ?_
    refine xj_iald E (by decide) (show vp_in (nI r) 28 from in_nI hr28 (by omega)) d_X10_close_13 ?_
    refine xj_st (st' := [.inl (nI (mnb μ r)), .inl (nI k)]) (by rw [hcr, e49, hR.1.1]) ?_
    refine xj_icmp_ge (tgt := 47) E d_X10_close_14 (by decide) (fun h14 => ?_) (fun h14 => ?_)
    · have hk8 : k = mnb μ r := by
        have := ge_nI h14 (by omega) (by omega)
        omega
      subst hk8
      exact hx _ l1 hfr hc hs hinv
    have hlt : k < mnb μ r := ng_nI h14 (by omega) (by omega)
    have hin : vp_in (nI (4 * r + k)) 112 := in_nI (by omega) (by omega)
    have hcj : (nI (4 * r + k)).toNatClampNeg = 4 * r + k := cl_nI (by omega)
    have e50 := hfr.1 50 (by decide) (by decide)
    have e51 := hfr.1 51 (by decide) (by decide)
    have hrow := hR.2 k hlt
    refine xj_aload_n E d_X10_close_17 rfl ?_
    refine xj_aload_n E d_X10_close_18 rfl ?_
    refine xj_geta E fl_X10_53 (by decide) rfl (by decide) rfl d_X10_close_19 ?_
    refine xj_iconst (v := 4) E d_X10_close_22 (by decide) ?_
    refine xj_iload_n E d_X10_close_23 rfl ?_
    refine xj_imul E d_X10_close_24 ?_
    refine xj_iload_n E d_X10_close_25 rfl ?_
    refine xj_iadd E d_X10_close_26 ?_
    refine xj_st (st' := [.inl (nI (4 * r + k)), .inr (50, 0), .inr (24, 0)]) (by rw [← ix4]) ?_
    refine xj_iald E (by decide) hin d_X10_close_27 ?_
    refine xj_st (st' := [.inl (nI (mbt μ r k)), .inr (24, 0)]) (by rw [hcj, e50, hrow.1]) ?_
    refine xj_aload_n E d_X10_close_28 rfl ?_
    refine xj_geta E fl_X10_56 (by decide) rfl (by decide) rfl d_X10_close_29 ?_
    refine xj_iconst (v := 4) E d_X10_close_32 (by decide) ?_
    refine xj_iload_n E d_X10_close_33 rfl ?_
    refine xj_imul E d_X10_close_34 ?_
    refine xj_iload_n E d_X10_close_35 rfl ?_
    refine xj_iadd E d_X10_close_36 ?_
    refine xj_st (st' := [.inl (nI (4 * r + k)), .inr (51, 0), .inl (nI (mbt μ r k)), .inr (24, 0)]) (by rw [← ix4]) ?_
    refine xj_iald E (by decide) hin d_X10_close_37 ?_
    refine xj_st (st' := [.inl (mbv μ r k), .inl (nI (mbt μ r k)), .inr (24, 0)]) (by rw [hcj, e51]; rfl) ?_
    have hpr : clPair (mnb μ r) (mbt μ r) (mbv μ r) (mnc μ) (mca μ) (mct μ) (mcw μ) (mbt μ r k) (mbv μ r k) := Or.inl ⟨k, hlt, rfl, rfl⟩
    have hcd := mCand_b (mnb μ r) (mbt μ r) (mbv μ r) (mnc μ) (mct μ) (mcw μ) hlt
    refine xj_callV E (k_X10_add l G hI (mbt μ r k) (mbv μ r k) l1 _ hc (by omega) (by omega) hty (Classical.byCases (p := (mbt μ r k, mbv μ r k) ∈ l1) Or.inl (fun z => Or.inr (by have := hs.room _ _ _ _ _ _ _ hpr hcd z; omega)))) cw_X10_136 cv_X10_add (by decide) rfl rfl rfl ⟨by decide, by decide⟩ (Nat.le_of_ble_eq_true rfl) d_X10_close_38 ⟨Nat.zero_le _, Nat.zero_le _⟩ (fun r38 μ38 ho38 hp38 => ?_)
    obtain ⟨rfl, hc2, hfr2⟩ := hp38
    refine xj_iinc (v := nI (k + 1)) E d_X10_close_41 rfl (nI_inc k) rfl ?_
    refine xj_goto (tgt := 7) E d_X10_close_44 (by decide) ?_
    exact ih (mnb μ r - (k + 1)) (by omega) (k + 1) _ (mAdd (mbt μ r k) (mbv μ r k) l1) rfl (by omega) (hfr.tr hfr2) hc2 (hs.add _ _ _ _ _ _ _ hpr hcd) (fun k' hk' => by
      by_cases z : k' = k
      · subst z; exact mAdd_mem
      · exact mAdd_keep (hinv k' (by omega))) hx
  refine xj_aload_n E d_X10_close_0 rfl ?_
  refine xj_iconst (v := 0) E d_X10_close_1 (by decide) ?_
  refine xj_put E fp_X10_133 (by decide) rfl (by decide) rfl (narrow_i _) d_X10_close_2 ?_
  refine xj_iconst (v := 0) E d_X10_close_5 (by decide) ?_
  refine xj_istore_n E d_X10_close_6 (by decide) rfl ?_
  refine lp1 _ (mnb μ r) 0 _ [] (by omega) (by omega) (frG_o (by decide)) (LIs.nil (mset_at _ _ _ _ _)) ⟨List.nodup_nil, fun q hq => absurd hq List.not_mem_nil, fun q hq => absurd hq List.not_mem_nil⟩ (fun k' hk' => by omega) (fun μ2 l2 hfr2 hc2 hs2 hb2 => ?_)
  refine xj_iconst (v := 0) E d_X10_close_47 (by decide) ?_
  refine xj_istore_n E d_X10_close_48 (by decide) rfl ?_
  refine lp2 _ (mnb μ r + mnc μ) 0 μ2 l2 (by omega) (by omega) hfr2 hc2 hs2 hb2 (fun i q hi => by omega) (fun μ3 l3 k hfr3 hc3 hs3 hb3 hcl3 => ?_)
  exact xj_vret E hr hlk d_X10_close_110 (⟨rfl, l3, hc3, mOK.of _ _ _ _ _ _ _ hs3 hb3 (fun q hq j hj e => by obtain ⟨i, hi⟩ := List.getElem?_of_mem hq; exact hcl3 i q ((List.getElem?_eq_some_iff.mp hi).1) hi j hj e), hs3.len _ _ _ _ _ _ _, hfr3⟩)
end
section
def sameT (l : PL) (a b : Nat) : Prop := ∃ p q : Nat × Int32, l[a]? = some p ∧ l[b]? = some q ∧ p.1 = q.1
def fnd (l : PL) (k j : Nat) : Prop := (∃ a b, a < b ∧ b < k ∧ sameT l a b) ∨ ∃ a, a < j ∧ sameT l a k
theorem fnd_next {l : PL} {k : Nat} : fnd l k k ↔ fnd l (k + 1) 0 := by
  constructor
  · rintro (⟨a, b, h1, h2, h3⟩ | ⟨a, h1, h3⟩)
    · exact Or.inl ⟨a, b, h1, by omega, h3⟩
    · exact Or.inl ⟨a, k, h1, by omega, h3⟩
  · rintro (⟨a, b, h1, h2, h3⟩ | ⟨a, h1, -⟩)
    · by_cases e : b = k
      · subst e; exact Or.inr ⟨a, h1, h3⟩
      · exact Or.inl ⟨a, b, h1, by omega, h3⟩
    · omega
theorem fnd_keep {l : PL} {k j : Nat} (h : fnd l k j) : fnd l k (j + 1) := by
  rcases h with h | ⟨a, h1, h3⟩
  · exact Or.inl h
  · exact Or.inr ⟨a, by omega, h3⟩
theorem fnd_no {l : PL} {k j : Nat} (h : ¬ fnd l k j) (hs : ¬ sameT l j k) : ¬ fnd l k (j + 1) := by
  rintro (q | ⟨a, h1, h3⟩)
  · exact h (Or.inl q)
  · by_cases e : a = j
    · subst e; exact hs h3
    · exact h (Or.inr ⟨a, by omega, h3⟩)
theorem fnd_end {l : PL} : fnd l l.length 0 ↔ ∃ j k : Nat, j < k ∧ ∃ p q : Nat × Int32, l[j]? = some p ∧ l[k]? = some q ∧ p.1 = q.1 := by
  constructor
  · rintro (⟨a, b, h1, h2, p, q, h3⟩ | ⟨a, h1, -⟩)
    · exact ⟨a, b, h1, p, q, h3⟩
    · omega
  · rintro ⟨a, b, h1, p, q, h3, h4, h5⟩
    exact Or.inl ⟨a, b, h1, (List.getElem?_eq_some_iff.mp h4).1, p, q, h3, h4, h5⟩
theorem sameT_iff {μ : Mem} {l : PL} (hc : cIs μ l) (hty : ∀ q, q ∈ l → q.1 ≤ 1000) {a b : Nat} (ha : a < l.length) (hb : b < l.length) : sameT l a b ↔ μ 55 0 a = μ 55 0 b := by
  have h1 := hc.2 a _ (List.getElem?_eq_getElem ha)
  have h2 := hc.2 b _ (List.getElem?_eq_getElem hb)
  have t1 := hty _ (List.getElem_mem ha)
  have t2 := hty _ (List.getElem_mem hb)
  rw [h1.1, h2.1, nI_eq (by omega) (by omega)]
  constructor
  · rintro ⟨p, q, e1, e2, e⟩
    rw [List.getElem?_eq_getElem ha] at e1
    rw [List.getElem?_eq_getElem hb] at e2
    cases e1; cases e2
    exact e
  · intro e
    exact ⟨_, _, List.getElem?_eq_getElem ha, List.getElem?_eq_getElem hb, e⟩

set_option maxRecDepth 100000 in
set_option maxHeartbeats 4000000 in
/-- X10 conflict -/
theorem k_X10_conflict (l : Launch) (G : XG) (hI : XI G) (r nt : Nat) (μ : Mem) (hr28 : r < 28) (hT : mTyp μ nt) (hR : mRow μ r nt) : XMet l G y_X10_conflict c_X10_conflict 5 (some .boolean) 2 [.inr (24, 0), .inl (nI r)] μ (fun rr μ' => ∃ x : Int32, rr = some (.inl x) ∧ (x = 0 ∨ x = 1) ∧ (x = 1 ↔ mConf μ r) ∧ frC μ μ') := by
  refine xj_met (by decide) hI (Nat.le_of_ble_eq_true rfl) ?_
  intro p e s m args below meth c E hr hlk
  have E : XE G (xA G) RX10 c_X10_conflict 5 p s m args c := E
  refine xj_loc (L' := [some (.inr (24, 0)), some (.inl (nI r)), none, none, none]) rfl ?_
  have hc16 := hT.2.1.2
  have hb4 := hR.1.2
  have lps : ∀ (μ1 : Mem) (l1 : PL), cIs μ1 l1 → l1.length ≤ 20 → (∀ q, q ∈ l1 → q.1 ≤ 1000) → ∀ (Q : State → Prop), (∀ x : Int32, ((x = 0 ∨ x = 1) ∧ (x = 1 ↔ fnd l1 l1.length 0)) → XJ G (xA G) 5 p l e (xr 2) s m args below meth c 0 0 Q 64 [some (.inr (24, 0)), some (.inl (nI r)), some (.inl x), some (.inl (nI l1.length)), none] [] μ1) → XJ G (xA G) 5 p l e (xr 2) s m args below meth c 0 0 Q 9 [some (.inr (24, 0)), some (.inl (nI r)), some (.inl 0), some (.inl (nI 0)), none] [] μ1 := by
    intro μ1 l1 hc hlen hty Q hx
    have lp2 : ∀ (n k j : Nat) (x : Int32), k - j = n → j ≤ k → k < l1.length → ((x = 0 ∨ x = 1) ∧ (x = 1 ↔ fnd l1 k j)) → (∀ x : Int32, ((x = 0 ∨ x = 1) ∧ (x = 1 ↔ fnd l1 k k)) → XJ G (xA G) 5 p l e (xr 2) s m args below meth c 0 0 Q 58 [some (.inr (24, 0)), some (.inl (nI r)), some (.inl x), some (.inl (nI k)), none] [] μ1) → XJ G (xA G) 5 p l e (xr 2) s m args below meth c 0 0 Q 20 [some (.inr (24, 0)), some (.inl (nI r)), some (.inl x), some (.inl (nI k)), some (.inl (nI j))] [] μ1 := by
      intro n
      induction n using Nat.strongRecOn with
      | _ n ih =>
      intro k j x hn hj hk hinv hy
      have hcj : (nI j).toNatClampNeg = j := cl_nI (by omega)
      have hck : (nI k).toNatClampNeg = k := cl_nI (by omega)
      refine xj_iload E d_X10_conflict_20 rfl ?_
      refine xj_iload_n E d_X10_conflict_22 rfl ?_
      refine xj_icmp_ge (tgt := 58) E d_X10_conflict_23 (by decide) (fun h23 => ?_) (fun h23 => ?_)
      · have hk8 : j = k := by
          have := ge_nI h23 (by omega) (by omega)
          omega
        subst hk8
        refine xj_forget 4 ?_
        exact hy x hinv
      have hlt : j < k := ng_nI h23 (by omega) (by omega)
      refine xj_iload_n E d_X10_conflict_26 rfl ?_
      refine xj_if_ne (tgt := 46) E d_X10_conflict_27 (by decide) (fun h27 => ?_) (fun h27 => ?_)
      · refine xj_iconst (v := 1) E d_X10_conflict_46 (by decide) ?_
        refine xj_goto (tgt := 51) E d_X10_conflict_47 (by decide) ?_
        refine xj_istore_n E d_X10_conflict_51 (by decide) rfl ?_
        refine xj_iinc (v := nI (j + 1)) E d_X10_conflict_52 rfl (nI_inc j) rfl ?_
        refine xj_goto (tgt := 20) E d_X10_conflict_55 (by decide) ?_
        first
          | exact ih (k - (j + 1)) (by omega) k (j + 1) 0 rfl (by omega) hk ⟨Or.inl rfl, ⟨fun q => absurd q i0_1, fun q => absurd q (fnd_no (fun z => i0_1 (h27.symm.trans (hinv.2.mpr z))) (fun z => h43 (by rw [hcj, hck]; exact (sameT_iff hc hty (by omega) hk).mp z)))⟩⟩ hy
          | exact ih (k - (j + 1)) (by omega) k (j + 1) 1 rfl (by omega) hk ⟨Or.inr rfl, ⟨fun _ => Or.inr ⟨j, by omega, (sameT_iff hc hty (by omega) hk).mpr (by rw [hcj, hck] at h43; exact h43)⟩, fun _ => rfl⟩⟩ hy
          | exact ih (k - (j + 1)) (by omega) k (j + 1) 1 rfl (by omega) hk ⟨Or.inr rfl, ⟨fun _ => fnd_keep (hinv.2.mp (hinv.1.resolve_left h27)), fun _ => rfl⟩⟩ hy
      refine xj_aload_n E d_X10_conflict_30 rfl ?_
      refine xj_geta E fl_X10_65 (by decide) rfl (by decide) rfl d_X10_conflict_31 ?_
      refine xj_iload E d_X10_conflict_34 rfl ?_
      refine xj_iald E (by decide) (show vp_in (nI j) 24 from in_nI (by omega) (by omega)) d_X10_conflict_36 ?_
      refine xj_aload_n E d_X10_conflict_37 rfl ?_
      refine xj_geta E fl_X10_65 (by decide) rfl (by decide) rfl d_X10_conflict_38 ?_
      refine xj_iload_n E d_X10_conflict_41 rfl ?_
      refine xj_iald E (by decide) (show vp_in (nI k) 24 from in_nI (by omega) (by omega)) d_X10_conflict_42 ?_
      refine xj_icmp_ne (tgt := 50) E d_X10_conflict_43 (by decide) (fun h43 => ?_) (fun h43 => ?_)
      · refine xj_iconst (v := 0) E d_X10_conflict_50 (by decide) ?_
        refine xj_istore_n E d_X10_conflict_51 (by decide) rfl ?_
        refine xj_iinc (v := nI (j + 1)) E d_X10_conflict_52 rfl (nI_inc j) rfl ?_
        refine xj_goto (tgt := 20) E d_X10_conflict_55 (by decide) ?_
        first
          | exact ih (k - (j + 1)) (by omega) k (j + 1) 0 rfl (by omega) hk ⟨Or.inl rfl, ⟨fun q => absurd q i0_1, fun q => absurd q (fnd_no (fun z => i0_1 (h27.symm.trans (hinv.2.mpr z))) (fun z => h43 (by rw [hcj, hck]; exact (sameT_iff hc hty (by omega) hk).mp z)))⟩⟩ hy
          | exact ih (k - (j + 1)) (by omega) k (j + 1) 1 rfl (by omega) hk ⟨Or.inr rfl, ⟨fun _ => Or.inr ⟨j, by omega, (sameT_iff hc hty (by omega) hk).mpr (by rw [hcj, hck] at h43; exact h43)⟩, fun _ => rfl⟩⟩ hy
          | exact ih (k - (j + 1)) (by omega) k (j + 1) 1 rfl (by omega) hk ⟨Or.inr rfl, ⟨fun _ => fnd_keep (hinv.2.mp (hinv.1.resolve_left h27)), fun _ => rfl⟩⟩ hy
      refine xj_iconst (v := 1) E d_X10_conflict_46 (by decide) ?_
      refine xj_goto (tgt := 51) E d_X10_conflict_47 (by decide) ?_
      refine xj_istore_n E d_X10_conflict_51 (by decide) rfl ?_
      refine xj_iinc (v := nI (j + 1)) E d_X10_conflict_52 rfl (nI_inc j) rfl ?_
      refine xj_goto (tgt := 20) E d_X10_conflict_55 (by decide) ?_
      first
        | exact ih (k - (j + 1)) (by omega) k (j + 1) 0 rfl (by omega) hk ⟨Or.inl rfl, ⟨fun q => absurd q i0_1, fun q => absurd q (fnd_no (fun z => i0_1 (h27.symm.trans (hinv.2.mpr z))) (fun z => h43 (by rw [hcj, hck]; exact (sameT_iff hc hty (by omega) hk).mp z)))⟩⟩ hy
        | exact ih (k - (j + 1)) (by omega) k (j + 1) 1 rfl (by omega) hk ⟨Or.inr rfl, ⟨fun _ => Or.inr ⟨j, by omega, (sameT_iff hc hty (by omega) hk).mpr (by rw [hcj, hck] at h43; exact h43)⟩, fun _ => rfl⟩⟩ hy
        | exact ih (k - (j + 1)) (by omega) k (j + 1) 1 rfl (by omega) hk ⟨Or.inr rfl, ⟨fun _ => fnd_keep (hinv.2.mp (hinv.1.resolve_left h27)), fun _ => rfl⟩⟩ hy
    have lp1 : ∀ (n k : Nat) (x : Int32), l1.length - k = n → k ≤ l1.length → ((x = 0 ∨ x = 1) ∧ (x = 1 ↔ fnd l1 k 0)) → XJ G (xA G) 5 p l e (xr 2) s m args below meth c 0 0 Q 9 [some (.inr (24, 0)), some (.inl (nI r)), some (.inl x), some (.inl (nI k)), none] [] μ1 := by
      intro n
      induction n using Nat.strongRecOn with
      | _ n ih =>
      intro k x hn hk hinv
      refine xj_iload_n E d_X10_conflict_9 rfl ?_
      refine xj_aload_n E d_X10_conflict_10 rfl ?_
      refine xj_geti E fl_X10_133 (by decide) rfl (by decide) rfl d_X10_conflict_11 ?_
      refine xj_icmp_ge (tgt := 64) E d_X10_conflict_14 (by decide) (fun h14 => ?_) (fun h14 => ?_)
      · have hk8 : k = l1.length := by
          have := ge_nI (b := k) (by rw [← hc.1]; exact h14) (by omega) (by omega)
          omega
        subst hk8
        exact hx x hinv
      have hlt : k < l1.length := ng_nI (b := k) (by rw [← hc.1]; exact h14) (by omega) (by omega)
      refine xj_iconst (v := 0) E d_X10_conflict_17 (by decide) ?_
      refine xj_istore E d_X10_conflict_18 (by decide) rfl ?_
      refine lp2 k k 0 x (by omega) (by omega) hlt hinv (fun x hinv2 => ?_)
      refine xj_iinc (v := nI (k + 1)) E d_X10_conflict_58 rfl (nI_inc k) rfl ?_
      refine xj_goto (tgt := 9) E d_X10_conflict_61 (by decide) ?_
      exact ih (l1.length - (k + 1)) (by omega) (k + 1) x rfl (by omega) ⟨hinv2.1, hinv2.2.trans fnd_next⟩
    refine lp1 l1.length 0 0 (by omega) (by omega) ⟨Or.inl rfl, ⟨fun q => absurd q i0_1, fun q => ?_⟩⟩
    rcases q with ⟨a, b, h1, h2, -⟩ | ⟨a, h1, -⟩ <;> omega
  refine xj_aload_n E d_X10_conflict_0 rfl ?_
  refine xj_iload_n E d_X10_conflict_1 rfl ?_
  refine xj_callV E (k_X10_close l G hI r nt _ hr28 hT hR) cw_X10_140 cv_X10_close (by decide) rfl rfl rfl ⟨by decide, by decide⟩ (Nat.le_of_ble_eq_true rfl) d_X10_conflict_2 ⟨Nat.zero_le _, Nat.zero_le _⟩ (fun r2 μ2 ho2 hp2 => ?_)
  obtain ⟨rfl, l1, hc, hok, hlen, hfr⟩ := hp2
  have hty := mOK_lt hT hR (fun q hq => (hok.2 q.1 q.2).mp hq)
  refine xj_iconst (v := 0) E d_X10_conflict_5 (by decide) ?_
  refine xj_istore_n E d_X10_conflict_6 (by decide) rfl ?_
  refine xj_iconst (v := 0) E d_X10_conflict_7 (by decide) ?_
  refine xj_istore_n E d_X10_conflict_8 (by decide) rfl ?_
  refine lps _ l1 hc (by omega) hty _ (fun x hx => ?_)
  refine xj_iload_n E d_X10_conflict_64 rfl ?_
  exact xj_zret E hr hlk hx.1 d_X10_conflict_65 (⟨x, rfl, hx.1, (hx.2.trans fnd_end).trans (hok.conf _ _ _ _ _ _ _), hfr⟩)

set_option maxRecDepth 100000 in
set_option maxHeartbeats 4000000 in
/-- X10 rowOf -/
theorem k_X10_rowOf (l : Launch) (G : XG) (hI : XI G) (x y : Int32) (μ : Mem)  : XMet l G y_X10_rowOf c_X10_rowOf 2 (some .int) 0 [.inl x, .inl y] μ (fun rr μ' => rr = some (.inl (if 0 ≤ y then 12 + 4 * x + y else 8 + x)) ∧ μ' = μ) := by
  refine xj_met (by decide) hI (Nat.le_of_ble_eq_true rfl) ?_
  intro p e s m args below meth c E hr hlk
  have E : XE G (xA G) RX10 c_X10_rowOf 2 p s m args c := E
  refine xj_loc (L' := [some (.inl x), some (.inl y)]) rfl ?_
  refine xj_iload_n E d_X10_rowOf_0 rfl ?_
  refine xj_if_ge (tgt := 11) E d_X10_rowOf_1 (by decide) (fun h1 => ?_) (fun h1 => ?_)
  · refine xj_bipush (v := 12) E d_X10_rowOf_11 (by decide) ?_
    refine xj_iconst (v := 4) E d_X10_rowOf_13 (by decide) ?_
    refine xj_iload_n E d_X10_rowOf_14 rfl ?_
    refine xj_imul E d_X10_rowOf_15 ?_
    refine xj_iadd E d_X10_rowOf_16 ?_
    refine xj_iload_n E d_X10_rowOf_17 rfl ?_
    refine xj_iadd E d_X10_rowOf_18 ?_
    exact xj_iret E hr hlk d_X10_rowOf_19 (by first | exact ⟨by rw [if_pos h1], rfl⟩ | exact ⟨by rw [if_neg h1], rfl⟩)
  refine xj_bipush (v := 8) E d_X10_rowOf_4 (by decide) ?_
  refine xj_iload_n E d_X10_rowOf_6 rfl ?_
  refine xj_iadd E d_X10_rowOf_7 ?_
  refine xj_goto (tgt := 19) E d_X10_rowOf_8 (by decide) ?_
  exact xj_iret E hr hlk d_X10_rowOf_19 (by first | exact ⟨by rw [if_pos h1], rfl⟩ | exact ⟨by rw [if_neg h1], rfl⟩)

theorem row_own (j : Nat) : (if (0 : Int32) ≤ -1 then 12 + 4 * nI j + -1 else 8 + nI j) = nI (8 + j) := by
  rw [if_neg (by decide), ← nI_add]
  rfl
theorem row_m {j k : Nat} (h : k < 7) : (if (0 : Int32) ≤ nI k then 12 + 4 * nI j + nI k else 8 + nI j) = nI (12 + 4 * j + k) := by
  rw [if_pos (nI_pos' (by omega)), ← nI_add, ← nI_add, ← pk_mul]
  rfl
/-- those of the first n of l that are of no type of the first b of f -/
def tkf (l : PL) (keep : Nat → Bool) : Nat → PL
  | 0 => []
  | n + 1 => match l[n]? with
    | some q => if keep q.1 = true then tkf l keep n ++ [q] else tkf l keep n
    | none => tkf l keep n
theorem tkf_yes {l : PL} {keep : Nat → Bool} {n : Nat} {q : Nat × Int32} (h : l[n]? = some q) (hk : keep q.1 = true) : tkf l keep (n + 1) = tkf l keep n ++ [q] := by
  simp only [tkf, h, hk, if_true]
theorem tkf_no {l : PL} {keep : Nat → Bool} {n : Nat} {q : Nat × Int32} (h : l[n]? = some q) (hk : keep q.1 = false) : tkf l keep (n + 1) = tkf l keep n := by
  simp only [tkf, h, hk]
  rfl
theorem tkf_mem {l : PL} {keep : Nat → Bool} {p : Nat × Int32} : ∀ {n : Nat}, n ≤ l.length → (p ∈ tkf l keep n ↔ ∃ i, i < n ∧ l[i]? = some p ∧ keep p.1 = true)
  | 0, _ => ⟨fun h => absurd h List.not_mem_nil, fun ⟨i, h, _⟩ => by omega⟩
  | n + 1, hn => by
    have ih := tkf_mem (l := l) (keep := keep) (p := p) (n := n) (by omega)
    have hat := List.getElem?_eq_getElem (l := l) (i := n) (by omega)
    cases hk : keep (l[n]).1 with
    | true =>
      rw [tkf_yes hat hk]
      constructor
      · intro h
        rcases List.mem_append.mp h with h | h
        · obtain ⟨i, h1, h2⟩ := ih.mp h
          exact ⟨i, by omega, h2⟩
        · have := List.mem_singleton.mp h
          subst this
          exact ⟨n, by omega, hat, hk⟩
      · rintro ⟨i, h1, h2, h3⟩
        by_cases e : i = n
        · subst e
          rw [hat] at h2
          cases h2
          exact List.mem_append_right _ (List.mem_singleton.mpr rfl)
        · exact List.mem_append_left _ (ih.mpr ⟨i, by omega, h2, h3⟩)
    | false =>
      rw [tkf_no hat hk]
      constructor
      · intro h
        obtain ⟨i, h1, h2⟩ := ih.mp h
        exact ⟨i, by omega, h2⟩
      · rintro ⟨i, h1, h2, h3⟩
        by_cases e : i = n
        · subst e
          rw [hat] at h2
          cases h2
          rw [hk] at h3
          cases h3
        · exact ih.mpr ⟨i, by omega, h2, h3⟩
theorem tkf_len {l : PL} {keep : Nat → Bool} : ∀ {n : Nat}, (tkf l keep n).length ≤ n
  | 0 => Nat.le_refl _
  | n + 1 => by
    have ih := tkf_len (l := l) (keep := keep) (n := n)
    unfold tkf
    split
    · split
      · simp; exact ih
      · omega
    · omega
noncomputable def kpt (f : PL) (b : Nat) (t : Nat) : Bool := bq (∀ (i : Nat) (q : Nat × Int32), i < b → f[i]? = some q → q.1 ≠ t)

theorem h54n {x : Int32} (h : x = 0) (q : x = 1) : False := i0_1 (h.symm.trans q)

set_option maxRecDepth 100000 in
set_option maxHeartbeats 4000000 in
/-- X10 takeOver -/
theorem k_X10_takeOver (l : Launch) (G : XG) (hI : XI G) (b : Nat) (l1 f0 : PL) (μ : Mem) (hc : cIs μ l1) (hf : fIs μ f0) (hl1 : l1.length ≤ 20) (hf0 : f0.length ≤ 20) (hb : b ≤ f0.length) (hty : ∀ q, q ∈ l1 → q.1 ≤ 1000) (hfy : ∀ q, q ∈ f0 → q.1 ≤ 1000) : XMet l G y_X10_takeOver c_X10_takeOver 5 none 0 [.inr (24, 0), .inl (nI b)] μ (fun rr μ' => rr = none ∧ fIs μ' (f0 ++ tkf l1 (kpt f0 b) l1.length) ∧ frG [58, 59] [27] μ μ') := by
  refine xj_met (by decide) hI (Nat.le_of_ble_eq_true rfl) ?_
  intro p e s m args below meth c E hr hlk
  have E : XE G (xA G) RX10 c_X10_takeOver 5 p s m args c := E
  refine xj_loc (L' := [some (.inr (24, 0)), some (.inl (nI b)), none, none, none]) rfl ?_
  have e_c : ∀ μ1, frG [58, 59] [27] μ μ1 → cIs μ1 l1 := fun μ1 h => hc.keep (h.2 0 24 (by decide)) (h.1 55 (by decide) (by decide)) (h.1 56 (by decide) (by decide))
  have lp2 : ∀ (Q : State → Prop) (n k j : Nat) (hk : k < l1.length) (x : Int32) (μ1 : Mem), b - j = n → j ≤ b → frG [58, 59] [27] μ μ1 → fIs μ1 (f0 ++ tkf l1 (kpt f0 b) k) → ((x = 0 ∨ x = 1) ∧ (x = 1 ↔ (∃ (i : Nat) (q : Nat × Int32), i < j ∧ f0[i]? = some q ∧ q.1 = (l1[k]'hk).1))) → (∀ x : Int32, ((x = 0 ∨ x = 1) ∧ (x = 1 ↔ (∃ (i : Nat) (q : Nat × Int32), i < b ∧ f0[i]? = some q ∧ q.1 = (l1[k]'hk).1))) → XJ G (xA G) 5 p l e (xr 0) s m args below meth c 0 0 Q 53 [some (.inr (24, 0)), some (.inl (nI b)), some (.inl (nI k)), some (.inl (x)), none] [] μ1) → XJ G (xA G) 5 p l e (xr 0) s m args below meth c 0 0 Q 15 [some (.inr (24, 0)), some (.inl (nI b)), some (.inl (nI k)), some (.inl (x)), some (.inl (nI j))] [] μ1 := by
    intro Q n
    induction n using Nat.strongRecOn with
    | _ n ih =>
    intro k j hk x μ1 hn hj hfr hf hinv hy
    have hc1 := e_c μ1 hfr
    have hcj : (nI j).toNatClampNeg = j := cl_nI (by omega)
    have hck : (nI k).toNatClampNeg = k := cl_nI (by omega)
    refine xj_iload E d_X10_takeOver_15 rfl ?_
    refine xj_iload_n E d_X10_takeOver_17 rfl ?_
    refine xj_icmp_ge (tgt := 53) E d_X10_takeOver_18 (by decide) (fun h18 => ?_) (fun h18 => ?_)
    · have hk8 : j = b := by
        have := ge_nI h18 (by omega) (by omega)
        omega
      subst hk8
      refine xj_forget 4 ?_
      exact hy x hinv
    have hlt : j < b := ng_nI h18 (by omega) (by omega)
    have hfat : f0[j]? = some f0[j] := List.getElem?_eq_getElem (by omega)
    have hfm := hf.2 j _ (by rw [List.getElem?_append_left (by omega)]; exact hfat)
    have hlm := hc1.2 k _ (List.getElem?_eq_getElem hk)
    have t1 := hfy _ (List.getElem_mem (by omega : j < f0.length))
    have t2 := hty _ (List.getElem_mem hk)
    refine xj_iload_n E d_X10_takeOver_21 rfl ?_
    refine xj_if_ne (tgt := 41) E d_X10_takeOver_22 (by decide) (fun h22 => ?_) (fun h22 => ?_)
    · refine xj_iconst (v := 1) E d_X10_takeOver_41 (by decide) ?_
      refine xj_goto (tgt := 46) E d_X10_takeOver_42 (by decide) ?_
      refine xj_istore_n E d_X10_takeOver_46 (by decide) rfl ?_
      refine xj_iinc (v := nI (j + 1)) E d_X10_takeOver_47 rfl (nI_inc j) rfl ?_
      refine xj_goto (tgt := 15) E d_X10_takeOver_50 (by decide) ?_
      first
        | exact ih (b - (j + 1)) (by omega) k (j + 1) hk 0 μ1 rfl (by omega) hfr hf ⟨Or.inl rfl, ⟨fun q => absurd q i0_1, fun ⟨i, q, h1, h2, h3⟩ => by
            exfalso
            by_cases z : i = j
            · subst z
              rw [hfat] at h2
              cases h2
              apply h38
              rw [hcj, hck, hfm.1, hlm.1, h3]
            · exact i0_1 (h22.symm.trans (hinv.2.mpr ⟨i, q, by omega, h2, h3⟩))⟩⟩ hy
        | exact ih (b - (j + 1)) (by omega) k (j + 1) hk 1 μ1 rfl (by omega) hfr hf ⟨Or.inr rfl, ⟨fun _ => ⟨j, _, by omega, hfat, by
            rw [hcj, hck, hfm.1, hlm.1] at h38
            exact (nI_eq (by omega) (by omega)).mp h38⟩, fun _ => rfl⟩⟩ hy
        | exact ih (b - (j + 1)) (by omega) k (j + 1) hk 1 μ1 rfl (by omega) hfr hf ⟨Or.inr rfl, ⟨fun _ => by
            obtain ⟨i, q, h1, h2⟩ := hinv.2.mp (hinv.1.resolve_left h22)
            exact ⟨i, q, by omega, h2⟩, fun _ => rfl⟩⟩ hy
    refine xj_aload_n E d_X10_takeOver_25 rfl ?_
    refine xj_geta E fl_X10_71 (by decide) rfl (by decide) rfl d_X10_takeOver_26 ?_
    refine xj_iload E d_X10_takeOver_29 rfl ?_
    refine xj_iald E (by decide) (show vp_in (nI j) 48 from in_nI (by omega) (by omega)) d_X10_takeOver_31 ?_
    refine xj_aload_n E d_X10_takeOver_32 rfl ?_
    refine xj_geta E fl_X10_65 (by decide) rfl (by decide) rfl d_X10_takeOver_33 ?_
    refine xj_iload_n E d_X10_takeOver_36 rfl ?_
    refine xj_iald E (by decide) (show vp_in (nI k) 24 from in_nI (by omega) (by omega)) d_X10_takeOver_37 ?_
    refine xj_icmp_ne (tgt := 45) E d_X10_takeOver_38 (by decide) (fun h38 => ?_) (fun h38 => ?_)
    · refine xj_iconst (v := 0) E d_X10_takeOver_45 (by decide) ?_
      refine xj_istore_n E d_X10_takeOver_46 (by decide) rfl ?_
      refine xj_iinc (v := nI (j + 1)) E d_X10_takeOver_47 rfl (nI_inc j) rfl ?_
      refine xj_goto (tgt := 15) E d_X10_takeOver_50 (by decide) ?_
      first
        | exact ih (b - (j + 1)) (by omega) k (j + 1) hk 0 μ1 rfl (by omega) hfr hf ⟨Or.inl rfl, ⟨fun q => absurd q i0_1, fun ⟨i, q, h1, h2, h3⟩ => by
            exfalso
            by_cases z : i = j
            · subst z
              rw [hfat] at h2
              cases h2
              apply h38
              rw [hcj, hck, hfm.1, hlm.1, h3]
            · exact i0_1 (h22.symm.trans (hinv.2.mpr ⟨i, q, by omega, h2, h3⟩))⟩⟩ hy
        | exact ih (b - (j + 1)) (by omega) k (j + 1) hk 1 μ1 rfl (by omega) hfr hf ⟨Or.inr rfl, ⟨fun _ => ⟨j, _, by omega, hfat, by
            rw [hcj, hck, hfm.1, hlm.1] at h38
            exact (nI_eq (by omega) (by omega)).mp h38⟩, fun _ => rfl⟩⟩ hy
        | exact ih (b - (j + 1)) (by omega) k (j + 1) hk 1 μ1 rfl (by omega) hfr hf ⟨Or.inr rfl, ⟨fun _ => by
            obtain ⟨i, q, h1, h2⟩ := hinv.2.mp (hinv.1.resolve_left h22)
            exact ⟨i, q, by omega, h2⟩, fun _ => rfl⟩⟩ hy
    refine xj_iconst (v := 1) E d_X10_takeOver_41 (by decide) ?_
    refine xj_goto (tgt := 46) E d_X10_takeOver_42 (by decide) ?_
    refine xj_istore_n E d_X10_takeOver_46 (by decide) rfl ?_
    refine xj_iinc (v := nI (j + 1)) E d_X10_takeOver_47 rfl (nI_inc j) rfl ?_
    refine xj_goto (tgt := 15) E d_X10_takeOver_50 (by decide) ?_
    first
      | exact ih (b - (j + 1)) (by omega) k (j + 1) hk 0 μ1 rfl (by omega) hfr hf ⟨Or.inl rfl, ⟨fun q => absurd q i0_1, fun ⟨i, q, h1, h2, h3⟩ => by
          exfalso
          by_cases z : i = j
          · subst z
            rw [hfat] at h2
            cases h2
            apply h38
            rw [hcj, hck, hfm.1, hlm.1, h3]
          · exact i0_1 (h22.symm.trans (hinv.2.mpr ⟨i, q, by omega, h2, h3⟩))⟩⟩ hy
      | exact ih (b - (j + 1)) (by omega) k (j + 1) hk 1 μ1 rfl (by omega) hfr hf ⟨Or.inr rfl, ⟨fun _ => ⟨j, _, by omega, hfat, by
          rw [hcj, hck, hfm.1, hlm.1] at h38
          exact (nI_eq (by omega) (by omega)).mp h38⟩, fun _ => rfl⟩⟩ hy
      | exact ih (b - (j + 1)) (by omega) k (j + 1) hk 1 μ1 rfl (by omega) hfr hf ⟨Or.inr rfl, ⟨fun _ => by
          obtain ⟨i, q, h1, h2⟩ := hinv.2.mp (hinv.1.resolve_left h22)
          exact ⟨i, q, by omega, h2⟩, fun _ => rfl⟩⟩ hy
  have lp1 : ∀ (Q : State → Prop) (n k : Nat) (μ1 : Mem), l1.length - k = n → k ≤ l1.length → frG [58, 59] [27] μ μ1 → fIs μ1 (f0 ++ tkf l1 (kpt f0 b) k) → (∀ μ2, frG [58, 59] [27] μ μ2 → fIs μ2 (f0 ++ tkf l1 (kpt f0 b) l1.length) → XJ G (xA G) 5 p l e (xr 0) s m args below meth c 0 0 Q 103 [some (.inr (24, 0)), some (.inl (nI b)), some (.inl (nI l1.length)), none, none] [] μ2) → XJ G (xA G) 5 p l e (xr 0) s m args below meth c 0 0 Q 2 [some (.inr (24, 0)), some (.inl (nI b)), some (.inl (nI k)), none, none] [] μ1 := by
    intro Q n
    induction n using Nat.strongRecOn with
    | _ n ih =>
    intro k μ1 hn hk hfr hf hx
    have hc1 := e_c μ1 hfr
    have htl := tkf_len (l := l1) (keep := kpt f0 b) (n := k)
    have hfl : (f0 ++ tkf l1 (kpt f0 b) k).length ≤ f0.length + k := by rw [List.length_append]; omega
    refine xj_iload_n E d_X10_takeOver_2 rfl ?_
    refine xj_aload_n E d_X10_takeOver_3 rfl ?_
    refine xj_geti E fl_X10_133 (by decide) rfl (by decide) rfl d_X10_takeOver_4 ?_
    refine xj_icmp_ge (tgt := 103) E d_X10_takeOver_7 (by decide) (fun h7 => ?_) (fun h7 => ?_)
    · have hk8 : k = l1.length := by
        have := ge_nI (b := k) (by rw [← hc1.1]; exact h7) (by omega) (by omega)
        omega
      subst hk8
      exact hx _ hfr hf
    have hlt : k < l1.length := ng_nI (b := k) (by rw [← hc1.1]; exact h7) (by omega) (by omega)
    refine xj_iconst (v := 0) E d_X10_takeOver_10 (by decide) ?_
    refine xj_istore_n E d_X10_takeOver_11 (by decide) rfl ?_
    refine xj_iconst (v := 0) E d_X10_takeOver_12 (by decide) ?_
    refine xj_istore E d_X10_takeOver_13 (by decide) rfl ?_
    refine lp2 Q b k 0 hlt 0 μ1 (by omega) (by omega) hfr hf ⟨Or.inl rfl, ⟨fun q => absurd q i0_1, fun ⟨i, q, h1, _⟩ => by omega⟩⟩ (fun x hinv => ?_)
    have hck : (nI k).toNatClampNeg = k := cl_nI (by omega)
    have hat := List.getElem?_eq_getElem hlt
    have hlm := hc1.2 k _ hat
    have hin : vp_in (μ1 24 0 27) 48 := by rw [hf.1]; exact in_nI (by omega) (by omega)
    have hcl : (μ1 24 0 27).toNatClampNeg = (f0 ++ tkf l1 (kpt f0 b) k).length := by rw [hf.1]; exact cl_nI (by omega)
    refine xj_iload_n E d_X10_takeOver_53 rfl ?_
    refine xj_if_ne (tgt := 97) E d_X10_takeOver_54 (by decide) (fun h54 => ?_) (fun h54 => ?_)
    · refine xj_iinc (v := nI (k + 1)) E d_X10_takeOver_97 rfl (nI_inc k) rfl ?_
      refine xj_goto (tgt := 2) E d_X10_takeOver_100 (by decide) ?_
      refine xj_forget 3 ?_
      refine xj_forget 4 ?_
      first
        | (refine ih (l1.length - (k + 1)) (by omega) (k + 1) _ rfl (by omega) (((hfr.tr (frG_f (by decide) (by decide))).tr (frG_f (by decide) (by decide))).tr (frG_o (by decide))) ?_ hx
           have hkp : kpt f0 b (l1[k]).1 = true := bq_t (fun i q hi hq e => h54n h54 (hinv.2.mpr ⟨i, q, hi, hq, e⟩))
           rw [tkf_yes hat hkp, ← List.append_assoc]
           show fIs (mset (mset (mset μ1 58 0 (μ1 24 0 27).toNatClampNeg (nI (l1[k]).1)) 59 0 (μ1 24 0 27).toNatClampNeg (l1[k]).2) 24 0 27 (μ1 24 0 27 + 1)) _
           rw [hcl, hf.1, nI_1]
           exact hf.app (by decide) (by decide) (by decide))
        | (refine ih (l1.length - (k + 1)) (by omega) (k + 1) _ rfl (by omega) hfr ?_ hx
           have hkp : kpt f0 b (l1[k]).1 = false := bq_f (fun q => by
             obtain ⟨i, p, h1, h2, h3⟩ := hinv.2.mp (hinv.1.resolve_left h54)
             exact q i p h1 h2 h3)
           rw [tkf_no hat hkp]
           exact hf)
    refine xj_aload_n E d_X10_takeOver_57 rfl ?_
    refine xj_geta E fl_X10_71 (by decide) rfl (by decide) rfl d_X10_takeOver_58 ?_
    refine xj_aload_n E d_X10_takeOver_61 rfl ?_
    refine xj_geti E fl_X10_144 (by decide) rfl (by decide) rfl d_X10_takeOver_62 ?_
    refine xj_aload_n E d_X10_takeOver_65 rfl ?_
    refine xj_geta E fl_X10_65 (by decide) rfl (by decide) rfl d_X10_takeOver_66 ?_
    refine xj_iload_n E d_X10_takeOver_69 rfl ?_
    refine xj_iald E (by decide) (show vp_in (nI k) 24 from in_nI (by omega) (by omega)) d_X10_takeOver_70 ?_
    refine xj_st (st' := [.inl (nI (l1[k]).1), .inl (μ1 24 0 27), .inr (58, 0)]) (by rw [hck, hlm.1]) ?_
    refine xj_iast E (by decide) hin d_X10_takeOver_71 ?_
    refine xj_aload_n E d_X10_takeOver_72 rfl ?_
    refine xj_geta E fl_X10_74 (by decide) rfl (by decide) rfl d_X10_takeOver_73 ?_
    refine xj_aload_n E d_X10_takeOver_76 rfl ?_
    refine xj_geti E fl_X10_144 (by decide) rfl (by decide) rfl d_X10_takeOver_77 ?_
    refine xj_aload_n E d_X10_takeOver_80 rfl ?_
    refine xj_geta E fl_X10_68 (by decide) rfl (by decide) rfl d_X10_takeOver_81 ?_
    refine xj_iload_n E d_X10_takeOver_84 rfl ?_
    refine xj_iald E (by decide) (show vp_in (nI k) 24 from in_nI (by omega) (by omega)) d_X10_takeOver_85 ?_
    refine xj_st (st' := [.inl (l1[k]).2, .inl (μ1 24 0 27), .inr (59, 0)]) (by show ([.inl (μ1 56 0 (nI k).toNatClampNeg), .inl (μ1 24 0 27), .inr (59, 0)] : List XV) = _; rw [hck, hlm.2]) ?_
    refine xj_iast E (by decide) hin d_X10_takeOver_86 ?_
    refine xj_aload_n E d_X10_takeOver_87 rfl ?_
    refine xj_dup E d_X10_takeOver_88 ?_
    refine xj_geti E fl_X10_144 (by decide) rfl (by decide) rfl d_X10_takeOver_89 ?_
    refine xj_iconst (v := 1) E d_X10_takeOver_92 (by decide) ?_
    refine xj_iadd E d_X10_takeOver_93 ?_
    refine xj_put E fp_X10_144 (by decide) rfl (by decide) rfl (narrow_i _) d_X10_takeOver_94 ?_
    refine xj_iinc (v := nI (k + 1)) E d_X10_takeOver_97 rfl (nI_inc k) rfl ?_
    refine xj_goto (tgt := 2) E d_X10_takeOver_100 (by decide) ?_
    refine xj_forget 3 ?_
    refine xj_forget 4 ?_
    first
      | (refine ih (l1.length - (k + 1)) (by omega) (k + 1) _ rfl (by omega) (((hfr.tr (frG_f (by decide) (by decide))).tr (frG_f (by decide) (by decide))).tr (frG_o (by decide))) ?_ hx
         have hkp : kpt f0 b (l1[k]).1 = true := bq_t (fun i q hi hq e => h54n h54 (hinv.2.mpr ⟨i, q, hi, hq, e⟩))
         rw [tkf_yes hat hkp, ← List.append_assoc]
         show fIs (mset (mset (mset μ1 58 0 (μ1 24 0 27).toNatClampNeg (nI (l1[k]).1)) 59 0 (μ1 24 0 27).toNatClampNeg (l1[k]).2) 24 0 27 (μ1 24 0 27 + 1)) _
         rw [hcl, hf.1, nI_1]
         exact hf.app (by decide) (by decide) (by decide))
      | (refine ih (l1.length - (k + 1)) (by omega) (k + 1) _ rfl (by omega) hfr ?_ hx
         have hkp : kpt f0 b (l1[k]).1 = false := bq_f (fun q => by
           obtain ⟨i, p, h1, h2, h3⟩ := hinv.2.mp (hinv.1.resolve_left h54)
           exact q i p h1 h2 h3)
         rw [tkf_no hat hkp]
         exact hf)
  refine xj_iconst (v := 0) E d_X10_takeOver_0 (by decide) ?_
  refine xj_istore_n E d_X10_takeOver_1 (by decide) rfl ?_
  refine lp1 _ l1.length 0 μ (by omega) (by omega) (frG.rf _ _ _) (by show fIs μ (f0 ++ []); rw [List.append_nil]; exact hf) (fun μ2 hfr2 hf2 => ?_)
  exact xj_vret E hr hlk d_X10_takeOver_103 (⟨rfl, hf2, hfr2⟩)
end
section
/-- the reference's row of a place -/
def rq (q : Nat) : Nat := if q % 5 = 0 then 8 + q / 5 else 12 + 4 * (q / 5) + (q % 5 - 1)
theorem rq_own (j : Nat) : rq (5 * j) = 8 + j := by unfold rq; rw [if_pos (by omega)]; omega
theorem rq_m {j k : Nat} (h : k < 4) : rq (5 * j + 1 + k) = 12 + 4 * j + k := by unfold rq; rw [if_neg (by omega)]; omega
theorem rq_lt {q : Nat} (h : q < 20) : rq q < 28 := by unfold rq; split <;> omega
def mnt (μ : Mem) : Nat := (μ 24 0 1).toNatClampNeg
def mni (μ : Mem) : Nat := (μ 24 0 7).toNatClampNeg
def mnd (μ : Mem) : Nat := (μ 24 0 11).toNatClampNeg
def mnp (μ : Mem) : Nat := (μ 24 0 16).toNatClampNeg
def mnl (μ : Mem) (r : Nat) : Nat := (μ 52 0 r).toNatClampNeg
def mWF (μ : Mem) : Prop := mTyp μ (mnt μ) ∧ (μ 24 0 7 = nI (mni μ) ∧ mni μ ≤ 8) ∧ (μ 24 0 11 = nI (mnd μ) ∧ mnd μ ≤ 4) ∧ (μ 24 0 16 = nI (mnp μ) ∧ mnp μ ≤ 4) ∧ (∀ i, i < mni μ → mRow μ i (mnt μ)) ∧ ∀ q, q < 5 * mnp μ → mRow μ (rq q) (mnt μ) ∧ (μ 52 0 (rq q) = nI (mnl μ (rq q)) ∧ mnl μ (rq q) ≤ 4) ∧ ∀ k, k < mnl μ (rq q) → ∃ i, i < mni μ ∧ μ 53 0 (4 * rq q + k) = nI i
theorem frD.nt {μ μ' : Mem} (h : frD μ μ') : mnt μ' = mnt μ := by unfold mnt; rw [h.2 1 (by decide)]
theorem frD.ni {μ μ' : Mem} (h : frD μ μ') : mni μ' = mni μ := by unfold mni; rw [h.2 7 (by decide)]
theorem frD.nd {μ μ' : Mem} (h : frD μ μ') : mnd μ' = mnd μ := by unfold mnd; rw [h.2 11 (by decide)]
theorem frD.np {μ μ' : Mem} (h : frD μ μ') : mnp μ' = mnp μ := by unfold mnp; rw [h.2 16 (by decide)]
theorem frD.nl {μ μ' : Mem} (h : frD μ μ') (r : Nat) : mnl μ' r = mnl μ r := by unfold mnl; rw [h.1 52 (by decide)]
theorem frD.wf {μ μ' : Mem} (h : frD μ μ') (hw : mWF μ) : mWF μ' := by
  unfold mWF at *
  rw [h.nt, h.ni, h.nd, h.np, h.typ, h.2 7 (by decide), h.2 11 (by decide), h.2 16 (by decide), h.1 52 (by decide), h.1 53 (by decide)]
  simp only [h.row, h.nl]
  exact hw
def mFP (μ : Mem) (j k t : Nat) (v : Int32) : Prop := if k < 4 then mPair μ (12 + 4 * j + k) t v ∨ (mPair μ (8 + j) t v ∧ ¬ ∃ v', mPair μ (12 + 4 * j + k) t v') else mPair μ (8 + j) t v
theorem frD.fp {μ μ' : Mem} (h : frD μ μ') (j k : Nat) : mFP μ' j k = mFP μ j k := by
  funext t v
  unfold mFP
  rw [h.pair, h.pair]
theorem kpt_0 (f : PL) (t : Nat) : kpt f 0 t = true := bq_t (fun i q hi => by omega)
theorem kpt_n {f : PL} {t : Nat} : kpt f f.length t = true ↔ ¬ ∃ v, (t, v) ∈ f := by
  unfold kpt
  rw [bq_i]
  constructor
  · rintro h ⟨v, hv⟩
    obtain ⟨i, hi⟩ := List.getElem?_of_mem hv
    exact h i _ ((List.getElem?_eq_some_iff.mp hi).1) hi rfl
  · intro h i q hi hq e
    exact h ⟨q.2, by rw [← e]; exact List.mem_of_getElem? hq⟩
theorem tkf_all {l f : PL} {b : Nat} {p : Nat × Int32} : p ∈ f ++ tkf l (kpt f b) l.length ↔ p ∈ f ∨ (p ∈ l ∧ kpt f b p.1 = true) := by
  rw [List.mem_append, tkf_mem (Nat.le_refl _)]
  constructor
  · rintro (h | ⟨i, -, h2, h3⟩)
    · exact Or.inl h
    · exact Or.inr ⟨List.mem_of_getElem? h2, h3⟩
  · rintro (h | ⟨h2, h3⟩)
    · exact Or.inl h
    · obtain ⟨i, hi⟩ := List.getElem?_of_mem h2
      exact Or.inr ⟨i, (List.getElem?_eq_some_iff.mp hi).1, hi, h3⟩

set_option maxRecDepth 100000 in
set_option maxHeartbeats 4000000 in
/-- X10 force -/
theorem k_X10_force (l : Launch) (G : XG) (hI : XI G) (j k : Nat) (μ : Mem) (hw : mWF μ) (hj : j < mnp μ) (hk7 : k < 7) : XMet l G y_X10_force c_X10_force 3 none 2 [.inr (24, 0), .inl (nI j), .inl (nI k)] μ (fun rr μ' => rr = none ∧ ∃ fl : PL, fIs μ' fl ∧ (∀ t v, (t, v) ∈ fl ↔ mFP μ j k t v) ∧ fl.length ≤ 40 ∧ (∀ q, q ∈ fl → q.1 ≤ 1000) ∧ frF μ μ') := by
  refine xj_met (by decide) hI (Nat.le_of_ble_eq_true rfl) ?_
  intro p e s m args below meth c E hr hlk
  have E : XE G (xA G) RX10 c_X10_force 3 p s m args c := E
  refine xj_loc (L' := [some (.inr (24, 0)), some (.inl (nI j)), some (.inl (nI k))]) rfl ?_
  have hnp := hw.2.2.2.1
  have hc16 := hw.1.2.1.2
  have hq0 := hw.2.2.2.2.2 (5 * j) (by omega)
  rw [rq_own] at hq0
  have hR0 := hq0.1
  have hb0 := hR0.1.2
  have hrest : ∀ (μ1 : Mem) (f1 : PL), frF μ μ1 → fIs μ1 f1 → f1.length ≤ 20 → (∀ q, q ∈ f1 → q.1 ≤ 1000) → (∀ t v (l2 : PL), mClOK μ (8 + j) l2 → (((t, v) ∈ f1 ∨ ((t, v) ∈ l2 ∧ kpt f1 f1.length t = true)) ↔ mFP μ j k t v)) → XJ G (xA G) 3 p l e (xr 2) s m args below meth c 0 0 (MQ below (xQ G (fun rr μ' => rr = none ∧ ∃ fl : PL, fIs μ' fl ∧ (∀ t v, (t, v) ∈ fl ↔ mFP μ j k t v) ∧ fl.length ≤ 40 ∧ (∀ q, q ∈ fl → q.1 ≤ 1000) ∧ frF μ μ')) args s 0 0 (xA G)) 24 [some (.inr (24, 0)), some (.inl (nI j)), some (.inl (nI k))] [] μ1 := by
    intro μ1 f1 hfr1 hf1 hf1l hfy1 hmem
    refine xj_aload_n E d_X10_force_24 rfl ?_
    refine xj_iload_n E d_X10_force_25 rfl ?_
    refine xj_iconst (v := -1) E d_X10_force_26 (by decide) ?_
    refine xj_callS E (k_X10_rowOf l G hI (nI j) (-1) _) cw_X10_129 cs_X10_rowOf rfl rfl ⟨by decide, by decide⟩ (Nat.le_of_ble_eq_true rfl) d_X10_force_27 ⟨Nat.zero_le _, Nat.zero_le _⟩ (fun r27 μ27 ho27 hp27 => ?_)
    obtain ⟨rfl, hm27⟩ := hp27
    refine xj_mem hm27 ?_
    refine xj_st (st' := [.inl (nI (8 + j)), .inr (24, 0)]) (by rw [row_own]; try rfl) ?_
    refine xj_callV E (k_X10_close l G hI (8 + j) (mnt μ) _ (by omega) (by rw [hfr1.l.d.typ]; exact hw.1) (by rw [hfr1.l.d.row]; exact hR0)) cw_X10_140 cv_X10_close (by decide) rfl rfl rfl ⟨by decide, by decide⟩ (Nat.le_of_ble_eq_true rfl) d_X10_force_30 ⟨Nat.zero_le _, Nat.zero_le _⟩ (fun r30 μ30 ho30 hp30 => ?_)
    obtain ⟨rfl, l2, hc2, hok2, hlen2, hfr2⟩ := hp30
    rw [hfr1.l.d.clok] at hok2
    rw [hfr1.l.d.nb, hfr1.l.d.nc] at hlen2
    have hty2 := mOK_lt hw.1 hR0 (fun q hq => (hok2.2 q.1 q.2).mp hq)
    have hf2 : fIs μ30 f1 := hf1.keep (hfr2.2 0 27 (by decide)) (hfr2.1 58 (by decide) (by decide)) (hfr2.1 59 (by decide) (by decide))
    refine xj_aload_n E d_X10_force_33 rfl ?_
    refine xj_aload_n E d_X10_force_34 rfl ?_
    refine xj_geti E fl_X10_144 (by decide) rfl (by decide) rfl d_X10_force_35 ?_
    refine xj_st (st' := [.inl (nI f1.length), .inr (24, 0)]) (by rw [← hf2.1]; try rfl) ?_
    refine xj_callV E (k_X10_takeOver l G hI f1.length l2 f1 _ hc2 hf2 (by omega) hf1l (Nat.le_refl _) hty2 hfy1) cw_X10_147 cv_X10_takeOver (by decide) rfl rfl rfl ⟨by decide, by decide⟩ (Nat.le_of_ble_eq_true rfl) d_X10_force_38 ⟨Nat.zero_le _, Nat.zero_le _⟩ (fun r38 μ38 ho38 hp38 => ?_)
    obtain ⟨rfl, hf3, hfr3⟩ := hp38
    exact xj_vret E hr hlk d_X10_force_41 (⟨rfl, _, hf3, fun t v => (tkf_all.trans (hmem t v l2 hok2)), by rw [List.length_append]; have := tkf_len (l := l2) (keep := kpt f1 f1.length) (n := l2.length); omega, fun q hq => (tkf_all.mp hq).elim (hfy1 q) (fun h => hty2 q h.1), (hfr1.tr hfr2.f).tr (hfr3.up (by decide) (by decide))⟩)
  refine xj_aload_n E d_X10_force_0 rfl ?_
  refine xj_iconst (v := 0) E d_X10_force_1 (by decide) ?_
  refine xj_put E fp_X10_144 (by decide) rfl (by decide) rfl (narrow_i _) d_X10_force_2 ?_
  have fr0 : frF μ (mset μ 24 0 27 0) := frG_o (by decide)
  refine xj_iload_n E d_X10_force_5 rfl ?_
  refine xj_iconst (v := 4) E d_X10_force_6 (by decide) ?_
  refine xj_icmp_ge (tgt := 24) E d_X10_force_7 (by decide) (fun h7 => ?_) (fun h7 => ?_)
  · first
      | (refine hrest _ _ ((fr0.tr hfr1.f).tr (hfr2.up (by decide) (by decide))) hf2 (by have := tkf_len (l := l1) (keep := kpt [] 0) (n := l1.length); simp; omega) (fun q hq => (tkf_all.mp hq).elim (fun h => absurd h List.not_mem_nil) (fun h => hty1 q h.1)) (fun t v l2 hok2 => ?_)
         have h1 : ∀ w, (t, w) ∈ ([] ++ tkf l1 (kpt [] 0) l1.length) ↔ mPair μ (12 + 4 * j + k) t w := fun w => by
           rw [tkf_all]
           constructor
           · rintro (h | h)
             · exact absurd h List.not_mem_nil
             · exact (hok1.2 t w).mp h.1
           · intro h
             exact Or.inr ⟨(hok1.2 t w).mpr h, kpt_0 _ _⟩
         unfold mFP
         rw [if_pos hk4, kpt_n, h1 v, hok2.2 t v]
         simp only [h1])
      | (refine hrest _ [] fr0 (LIs.nil (mset_at _ _ _ _ _)) (Nat.zero_le _) (fun q hq => absurd hq List.not_mem_nil) (fun t v l2 hok2 => ?_)
         have hk4 : ¬ k < 4 := by
           have := ge_nI (a := 4) h7 (by omega) (by omega)
           omega
         unfold mFP
         rw [if_neg hk4, hok2.2 t v, kpt_n]
         simp)
  have hk4 : k < 4 := ng_nI (a := 4) h7 (by omega) (by omega)
  have hq1 := hw.2.2.2.2.2 (5 * j + 1 + k) (by omega)
  rw [rq_m hk4] at hq1
  have hR1 := hq1.1
  have hb1 := hR1.1.2
  refine xj_aload_n E d_X10_force_10 rfl ?_
  refine xj_iload_n E d_X10_force_11 rfl ?_
  refine xj_iload_n E d_X10_force_12 rfl ?_
  refine xj_callS E (k_X10_rowOf l G hI (nI j) (nI k) _) cw_X10_129 cs_X10_rowOf rfl rfl ⟨by decide, by decide⟩ (Nat.le_of_ble_eq_true rfl) d_X10_force_13 ⟨Nat.zero_le _, Nat.zero_le _⟩ (fun r13 μ13 ho13 hp13 => ?_)
  obtain ⟨rfl, hm13⟩ := hp13
  refine xj_mem hm13 ?_
  refine xj_st (st' := [.inl (nI (12 + 4 * j + k)), .inr (24, 0)]) (by rw [row_m (by omega)]; try rfl) ?_
  refine xj_callV E (k_X10_close l G hI (12 + 4 * j + k) (mnt μ) _ (by omega) (by rw [fr0.l.d.typ]; exact hw.1) (by rw [fr0.l.d.row]; exact hR1)) cw_X10_140 cv_X10_close (by decide) rfl rfl rfl ⟨by decide, by decide⟩ (Nat.le_of_ble_eq_true rfl) d_X10_force_16 ⟨Nat.zero_le _, Nat.zero_le _⟩ (fun r16 μ16 ho16 hp16 => ?_)
  obtain ⟨rfl, l1, hc1, hok1, hlen1, hfr1⟩ := hp16
  rw [fr0.l.d.clok] at hok1
  rw [fr0.l.d.nb, fr0.l.d.nc] at hlen1
  have hty1 := mOK_lt hw.1 hR1 (fun q hq => (hok1.2 q.1 q.2).mp hq)
  have hf1 : fIs μ16 [] := LIs.nil ((hfr1.2 0 27 (by decide)).trans (mset_at _ _ _ _ _))
  refine xj_aload_n E d_X10_force_19 rfl ?_
  refine xj_iconst (v := 0) E d_X10_force_20 (by decide) ?_
  refine xj_callV E (k_X10_takeOver l G hI 0 l1 [] _ hc1 hf1 (by omega) (Nat.zero_le _) (Nat.zero_le _) hty1 (fun q hq => absurd hq List.not_mem_nil)) cw_X10_147 cv_X10_takeOver (by decide) rfl rfl rfl ⟨by decide, by decide⟩ (Nat.le_of_ble_eq_true rfl) d_X10_force_21 ⟨Nat.zero_le _, Nat.zero_le _⟩ (fun r21 μ21 ho21 hp21 => ?_)
  obtain ⟨rfl, hf2, hfr2⟩ := hp21
  first
    | (refine hrest _ _ ((fr0.tr hfr1.f).tr (hfr2.up (by decide) (by decide))) hf2 (by have := tkf_len (l := l1) (keep := kpt [] 0) (n := l1.length); simp; omega) (fun q hq => (tkf_all.mp hq).elim (fun h => absurd h List.not_mem_nil) (fun h => hty1 q h.1)) (fun t v l2 hok2 => ?_)
       have h1 : ∀ w, (t, w) ∈ ([] ++ tkf l1 (kpt [] 0) l1.length) ↔ mPair μ (12 + 4 * j + k) t w := fun w => by
         rw [tkf_all]
         constructor
         · rintro (h | h)
           · exact absurd h List.not_mem_nil
           · exact (hok1.2 t w).mp h.1
         · intro h
           exact Or.inr ⟨(hok1.2 t w).mpr h, kpt_0 _ _⟩
       unfold mFP
       rw [if_pos hk4, kpt_n, h1 v, hok2.2 t v]
       simp only [h1])
    | (refine hrest _ [] fr0 (LIs.nil (mset_at _ _ _ _ _)) (Nat.zero_le _) (fun q hq => absurd hq List.not_mem_nil) (fun t v l2 hok2 => ?_)
       have hk4 : ¬ k < 4 := by
         have := ge_nI (a := 4) h7 (by omega) (by omega)
         omega
       unfold mFP
       rw [if_neg hk4, hok2.2 t v, kpt_n]
       simp)

set_option maxRecDepth 100000 in
set_option maxHeartbeats 4000000 in
/-- X10 isBound -/
theorem k_X10_isBound (l : Launch) (G : XG) (hI : XI G) (i nt : Nat) (fl : PL) (μ : Mem) (hi : i < 8) (hT : mTyp μ nt) (hR : mRow μ i nt) (hf : fIs μ fl) (hfl : fl.length ≤ 40) (hfy : ∀ q, q ∈ fl → q.1 ≤ 1000) : XMet l G y_X10_isBound c_X10_isBound 5 (some .boolean) 2 [.inr (24, 0), .inl (nI i)] μ (fun rr μ' => rr = some (.inl (if bq (¬ μ 38 0 i = 0 ∧ 0 < mnb μ i ∧ ∀ t v, mPair μ i t v → (t, v) ∈ fl) = true then 1 else 0)) ∧ frC μ μ') := by
  refine xj_met (by decide) hI (Nat.le_of_ble_eq_true rfl) ?_
  intro p e s m args below meth c E hr hlk
  have E : XE G (xA G) RX10 c_X10_isBound 5 p s m args c := E
  refine xj_loc (L' := [some (.inr (24, 0)), some (.inl (nI i)), none, none, none]) rfl ?_
  have hc16 := hT.2.1.2
  have hb4 := hR.1.2
  have hci : (nI i).toNatClampNeg = i := cl_nI (by omega)
  have lps : ∀ (μ1 : Mem) (l1 : PL), cIs μ1 l1 → l1.length ≤ 20 → (∀ q, q ∈ l1 → q.1 ≤ 1000) → fIs μ1 fl → ∀ (Q : State → Prop), ((∀ q, q ∈ l1 → q ∈ fl) → XJ G (xA G) 5 p l e (xr 2) s m args below meth c 0 0 Q 109 [some (.inr (24, 0)), some (.inl (nI i)), some (.inl (nI l1.length)), none, none] [] μ1) → (∀ L, L.length = 5 → (¬ ∀ q, q ∈ l1 → q ∈ fl) → XJ G (xA G) 5 p l e (xr 2) s m args below meth c 0 0 Q 101 L [] μ1) → XJ G (xA G) 5 p l e (xr 2) s m args below meth c 0 0 Q 27 [some (.inr (24, 0)), some (.inl (nI i)), some (.inl (nI 0)), none, none] [] μ1 := by
    intro μ1 l1 hc hlen hty hf Q hx hno
    have lp2 : ∀ (n k j : Nat) (hk : k < l1.length) (x : Int32), fl.length - j = n → j ≤ fl.length → ((x = 0 ∨ x = 1) ∧ (x = 1 ↔ (∃ a, a < j ∧ fl[a]? = some (l1[k]'hk)))) → (∀ x : Int32, ((x = 0 ∨ x = 1) ∧ (x = 1 ↔ (∃ a, a < fl.length ∧ fl[a]? = some (l1[k]'hk)))) → XJ G (xA G) 5 p l e (xr 2) s m args below meth c 0 0 Q 97 [some (.inr (24, 0)), some (.inl (nI i)), some (.inl (nI k)), some (.inl (x)), none] [] μ1) → XJ G (xA G) 5 p l e (xr 2) s m args below meth c 0 0 Q 40 [some (.inr (24, 0)), some (.inl (nI i)), some (.inl (nI k)), some (.inl (x)), some (.inl (nI j))] [] μ1 := by
      intro n
      induction n using Nat.strongRecOn with
      | _ n ih =>
      intro k j hk x hn hj hinv hy
      have hcj : (nI j).toNatClampNeg = j := cl_nI (by omega)
      have hck : (nI k).toNatClampNeg = k := cl_nI (by omega)
      refine xj_iload E d_X10_isBound_40 rfl ?_
      refine xj_aload_n E d_X10_isBound_42 rfl ?_
      refine xj_geti E fl_X10_144 (by decide) rfl (by decide) rfl d_X10_isBound_43 ?_
      refine xj_icmp_ge (tgt := 97) E d_X10_isBound_46 (by decide) (fun h46 => ?_) (fun h46 => ?_)
      · have hk8 : j = fl.length := by
          have := ge_nI (b := j) (by rw [← hf.1]; exact h46) (by omega) (by omega)
          omega
        subst hk8
        refine xj_forget 4 ?_
        exact hy x hinv
      have hlt : j < fl.length := ng_nI (b := j) (by rw [← hf.1]; exact h46) (by omega) (by omega)
      have hfat : fl[j]? = some fl[j] := List.getElem?_eq_getElem hlt
      have hfm := hf.2 j _ hfat
      have hlm := hc.2 k _ (List.getElem?_eq_getElem hk)
      have t1 := hfy _ (List.getElem_mem hlt)
      have t2 := hty _ (List.getElem_mem hk)
      refine xj_iload_n E d_X10_isBound_49 rfl ?_
      refine xj_if_ne (tgt := 85) E d_X10_isBound_50 (by decide) (fun h50 => ?_) (fun h50 => ?_)
      · refine xj_iconst (v := 1) E d_X10_isBound_85 (by decide) ?_
        refine xj_goto (tgt := 90) E d_X10_isBound_86 (by decide) ?_
        refine xj_istore_n E d_X10_isBound_90 (by decide) rfl ?_
        refine xj_iinc (v := nI (j + 1)) E d_X10_isBound_91 rfl (nI_inc j) rfl ?_
        refine xj_goto (tgt := 40) E d_X10_isBound_94 (by decide) ?_
        first
          | exact ih (fl.length - (j + 1)) (by omega) k (j + 1) hk 1 rfl (by omega) ⟨Or.inr rfl, ⟨fun _ => ⟨j, by omega, by
              rw [hcj, hck, hfm.1, hlm.1] at h66
              rw [hcj, hck, hfm.2, hlm.2] at h82
              rw [hfat]
              exact congrArg some (Prod.ext ((nI_eq (by omega) (by omega)).mp h66) h82)⟩, fun _ => rfl⟩⟩ hy
          | exact ih (fl.length - (j + 1)) (by omega) k (j + 1) hk 0 rfl (by omega) ⟨Or.inl rfl, ⟨fun q => absurd q i0_1, fun ⟨a, h1, h2⟩ => by
              exfalso
              by_cases z : a = j
              · subst z
                rw [hfat] at h2
                have h3 := Option.some.inj h2
                first
                  | (apply h82; rw [hcj, hck, hfm.2, hlm.2, h3])
                  | (apply h66; rw [hcj, hck, hfm.1, hlm.1, h3])
              · exact i0_1 (h50.symm.trans (hinv.2.mpr ⟨a, by omega, h2⟩))⟩⟩ hy
          | exact ih (fl.length - (j + 1)) (by omega) k (j + 1) hk 1 rfl (by omega) ⟨Or.inr rfl, ⟨fun _ => by
              obtain ⟨a, h1, h2⟩ := hinv.2.mp (hinv.1.resolve_left h50)
              exact ⟨a, by omega, h2⟩, fun _ => rfl⟩⟩ hy
      refine xj_aload_n E d_X10_isBound_53 rfl ?_
      refine xj_geta E fl_X10_71 (by decide) rfl (by decide) rfl d_X10_isBound_54 ?_
      refine xj_iload E d_X10_isBound_57 rfl ?_
      refine xj_iald E (by decide) (show vp_in (nI j) 48 from in_nI (by omega) (by omega)) d_X10_isBound_59 ?_
      refine xj_aload_n E d_X10_isBound_60 rfl ?_
      refine xj_geta E fl_X10_65 (by decide) rfl (by decide) rfl d_X10_isBound_61 ?_
      refine xj_iload_n E d_X10_isBound_64 rfl ?_
      refine xj_iald E (by decide) (show vp_in (nI k) 24 from in_nI (by omega) (by omega)) d_X10_isBound_65 ?_
      refine xj_icmp_ne (tgt := 89) E d_X10_isBound_66 (by decide) (fun h66 => ?_) (fun h66 => ?_)
      · refine xj_iconst (v := 0) E d_X10_isBound_89 (by decide) ?_
        refine xj_istore_n E d_X10_isBound_90 (by decide) rfl ?_
        refine xj_iinc (v := nI (j + 1)) E d_X10_isBound_91 rfl (nI_inc j) rfl ?_
        refine xj_goto (tgt := 40) E d_X10_isBound_94 (by decide) ?_
        first
          | exact ih (fl.length - (j + 1)) (by omega) k (j + 1) hk 1 rfl (by omega) ⟨Or.inr rfl, ⟨fun _ => ⟨j, by omega, by
              rw [hcj, hck, hfm.1, hlm.1] at h66
              rw [hcj, hck, hfm.2, hlm.2] at h82
              rw [hfat]
              exact congrArg some (Prod.ext ((nI_eq (by omega) (by omega)).mp h66) h82)⟩, fun _ => rfl⟩⟩ hy
          | exact ih (fl.length - (j + 1)) (by omega) k (j + 1) hk 0 rfl (by omega) ⟨Or.inl rfl, ⟨fun q => absurd q i0_1, fun ⟨a, h1, h2⟩ => by
              exfalso
              by_cases z : a = j
              · subst z
                rw [hfat] at h2
                have h3 := Option.some.inj h2
                first
                  | (apply h82; rw [hcj, hck, hfm.2, hlm.2, h3])
                  | (apply h66; rw [hcj, hck, hfm.1, hlm.1, h3])
              · exact i0_1 (h50.symm.trans (hinv.2.mpr ⟨a, by omega, h2⟩))⟩⟩ hy
          | exact ih (fl.length - (j + 1)) (by omega) k (j + 1) hk 1 rfl (by omega) ⟨Or.inr rfl, ⟨fun _ => by
              obtain ⟨a, h1, h2⟩ := hinv.2.mp (hinv.1.resolve_left h50)
              exact ⟨a, by omega, h2⟩, fun _ => rfl⟩⟩ hy
      refine xj_aload_n E d_X10_isBound_69 rfl ?_
      refine xj_geta E fl_X10_74 (by decide) rfl (by decide) rfl d_X10_isBound_70 ?_
      refine xj_iload E d_X10_isBound_73 rfl ?_
      refine xj_iald E (by decide) (show vp_in (nI j) 48 from in_nI (by omega) (by omega)) d_X10_isBound_75 ?_
      refine xj_aload_n E d_X10_isBound_76 rfl ?_
      refine xj_geta E fl_X10_68 (by decide) rfl (by decide) rfl d_X10_isBound_77 ?_
      refine xj_iload_n E d_X10_isBound_80 rfl ?_
      refine xj_iald E (by decide) (show vp_in (nI k) 24 from in_nI (by omega) (by omega)) d_X10_isBound_81 ?_
      refine xj_icmp_ne (tgt := 89) E d_X10_isBound_82 (by decide) (fun h82 => ?_) (fun h82 => ?_)
      · refine xj_iconst (v := 0) E d_X10_isBound_89 (by decide) ?_
        refine xj_istore_n E d_X10_isBound_90 (by decide) rfl ?_
        refine xj_iinc (v := nI (j + 1)) E d_X10_isBound_91 rfl (nI_inc j) rfl ?_
        refine xj_goto (tgt := 40) E d_X10_isBound_94 (by decide) ?_
        first
          | exact ih (fl.length - (j + 1)) (by omega) k (j + 1) hk 1 rfl (by omega) ⟨Or.inr rfl, ⟨fun _ => ⟨j, by omega, by
              rw [hcj, hck, hfm.1, hlm.1] at h66
              rw [hcj, hck, hfm.2, hlm.2] at h82
              rw [hfat]
              exact congrArg some (Prod.ext ((nI_eq (by omega) (by omega)).mp h66) h82)⟩, fun _ => rfl⟩⟩ hy
          | exact ih (fl.length - (j + 1)) (by omega) k (j + 1) hk 0 rfl (by omega) ⟨Or.inl rfl, ⟨fun q => absurd q i0_1, fun ⟨a, h1, h2⟩ => by
              exfalso
              by_cases z : a = j
              · subst z
                rw [hfat] at h2
                have h3 := Option.some.inj h2
                first
                  | (apply h82; rw [hcj, hck, hfm.2, hlm.2, h3])
                  | (apply h66; rw [hcj, hck, hfm.1, hlm.1, h3])
              · exact i0_1 (h50.symm.trans (hinv.2.mpr ⟨a, by omega, h2⟩))⟩⟩ hy
          | exact ih (fl.length - (j + 1)) (by omega) k (j + 1) hk 1 rfl (by omega) ⟨Or.inr rfl, ⟨fun _ => by
              obtain ⟨a, h1, h2⟩ := hinv.2.mp (hinv.1.resolve_left h50)
              exact ⟨a, by omega, h2⟩, fun _ => rfl⟩⟩ hy
      refine xj_iconst (v := 1) E d_X10_isBound_85 (by decide) ?_
      refine xj_goto (tgt := 90) E d_X10_isBound_86 (by decide) ?_
      refine xj_istore_n E d_X10_isBound_90 (by decide) rfl ?_
      refine xj_iinc (v := nI (j + 1)) E d_X10_isBound_91 rfl (nI_inc j) rfl ?_
      refine xj_goto (tgt := 40) E d_X10_isBound_94 (by decide) ?_
      first
        | exact ih (fl.length - (j + 1)) (by omega) k (j + 1) hk 1 rfl (by omega) ⟨Or.inr rfl, ⟨fun _ => ⟨j, by omega, by
            rw [hcj, hck, hfm.1, hlm.1] at h66
            rw [hcj, hck, hfm.2, hlm.2] at h82
            rw [hfat]
            exact congrArg some (Prod.ext ((nI_eq (by omega) (by omega)).mp h66) h82)⟩, fun _ => rfl⟩⟩ hy
        | exact ih (fl.length - (j + 1)) (by omega) k (j + 1) hk 0 rfl (by omega) ⟨Or.inl rfl, ⟨fun q => absurd q i0_1, fun ⟨a, h1, h2⟩ => by
            exfalso
            by_cases z : a = j
            · subst z
              rw [hfat] at h2
              have h3 := Option.some.inj h2
              first
                | (apply h82; rw [hcj, hck, hfm.2, hlm.2, h3])
                | (apply h66; rw [hcj, hck, hfm.1, hlm.1, h3])
            · exact i0_1 (h50.symm.trans (hinv.2.mpr ⟨a, by omega, h2⟩))⟩⟩ hy
        | exact ih (fl.length - (j + 1)) (by omega) k (j + 1) hk 1 rfl (by omega) ⟨Or.inr rfl, ⟨fun _ => by
            obtain ⟨a, h1, h2⟩ := hinv.2.mp (hinv.1.resolve_left h50)
            exact ⟨a, by omega, h2⟩, fun _ => rfl⟩⟩ hy
    have lp1 : ∀ (n k : Nat), l1.length - k = n → k ≤ l1.length → (∀ (a : Nat) (q : Nat × Int32), a < k → l1[a]? = some q → q ∈ fl) → XJ G (xA G) 5 p l e (xr 2) s m args below meth c 0 0 Q 27 [some (.inr (24, 0)), some (.inl (nI i)), some (.inl (nI k)), none, none] [] μ1 := by
      intro n
      induction n using Nat.strongRecOn with
      | _ n ih =>
      intro k hn hk hinv
      refine xj_iload_n E d_X10_isBound_27 rfl ?_
      refine xj_aload_n E d_X10_isBound_28 rfl ?_
      refine xj_geti E fl_X10_133 (by decide) rfl (by decide) rfl d_X10_isBound_29 ?_
      refine xj_icmp_ge (tgt := 109) E d_X10_isBound_32 (by decide) (fun h32 => ?_) (fun h32 => ?_)
      · have hk8 : k = l1.length := by
          have := ge_nI (b := k) (by rw [← hc.1]; exact h32) (by omega) (by omega)
          omega
        subst hk8
        refine hx (fun q hq => ?_)
        obtain ⟨a, ha⟩ := List.getElem?_of_mem hq
        exact hinv a q ((List.getElem?_eq_some_iff.mp ha).1) ha
      have hlt : k < l1.length := ng_nI (b := k) (by rw [← hc.1]; exact h32) (by omega) (by omega)
      refine xj_iconst (v := 0) E d_X10_isBound_35 (by decide) ?_
      refine xj_istore_n E d_X10_isBound_36 (by decide) rfl ?_
      refine xj_iconst (v := 0) E d_X10_isBound_37 (by decide) ?_
      refine xj_istore E d_X10_isBound_38 (by decide) rfl ?_
      refine lp2 fl.length k 0 hlt 0 (by omega) (by omega) ⟨Or.inl rfl, ⟨fun q => absurd q i0_1, fun ⟨a, h1, _⟩ => by omega⟩⟩ (fun x hinv2 => ?_)
      refine xj_iload_n E d_X10_isBound_97 rfl ?_
      refine xj_if_ne (tgt := 103) E d_X10_isBound_98 (by decide) (fun h98 => ?_) (fun h98 => ?_)
      · refine xj_iinc (v := nI (k + 1)) E d_X10_isBound_103 rfl (nI_inc k) rfl ?_
        refine xj_goto (tgt := 27) E d_X10_isBound_106 (by decide) ?_
        refine xj_forget 3 ?_
        refine xj_forget 4 ?_
        refine ih (l1.length - (k + 1)) (by omega) (k + 1) rfl (by omega) (fun a q ha hq => ?_)
        by_cases z : a = k
        · subst z
          rw [List.getElem?_eq_getElem hlt] at hq
          cases hq
          obtain ⟨b, -, hb⟩ := hinv2.2.mp (hinv2.1.resolve_left h98)
          exact List.mem_of_getElem? hb
        · exact hinv a q (by omega) hq
      refine hno _ rfl (fun q => ?_)
      obtain ⟨a, ha⟩ := List.getElem?_of_mem (q _ (List.getElem_mem hlt))
      exact i0_1 (h98.symm.trans (hinv2.2.mpr ⟨a, (List.getElem?_eq_some_iff.mp ha).1, ha⟩))
    exact lp1 l1.length 0 (by omega) (by omega) (fun a q ha => by omega)
  refine xj_aload_n E d_X10_isBound_0 rfl ?_
  refine xj_geta E fl_X10_23 (by decide) rfl (by decide) rfl d_X10_isBound_1 ?_
  refine xj_iload_n E d_X10_isBound_4 rfl ?_
  refine xj_iald E (by decide) (show vp_in (nI i) 8 from in_nI hi (by omega)) d_X10_isBound_5 ?_
  refine xj_if_eq (tgt := 18) E d_X10_isBound_6 (by decide) (fun h6 => ?_) (fun h6 => ?_)
  · refine xj_iconst (v := 0) E d_X10_isBound_18 (by decide) ?_
    exact xj_zret E hr hlk (Or.inl rfl) d_X10_isBound_19 (by first | (rw [bq_f (show ¬ (¬ μ 38 0 i = 0 ∧ 0 < mnb μ i ∧ ∀ t v, mPair μ i t v → (t, v) ∈ fl) from fun q => by rw [hci, hR.1.1] at h15; exact nI_ne0 q.2.1 (by omega) h15)]; exact ⟨rfl, frG.rf _ _ _⟩) | (rw [bq_f (show ¬ (¬ μ 38 0 i = 0 ∧ 0 < mnb μ i ∧ ∀ t v, mPair μ i t v → (t, v) ∈ fl) from fun q => q.1 (by rw [hci] at h6; exact h6))]; exact ⟨rfl, frG.rf _ _ _⟩))
  refine xj_aload_n E d_X10_isBound_9 rfl ?_
  refine xj_geta E fl_X10_50 (by decide) rfl (by decide) rfl d_X10_isBound_10 ?_
  refine xj_iload_n E d_X10_isBound_13 rfl ?_
  refine xj_iald E (by decide) (show vp_in (nI i) 28 from in_nI (by omega) (by omega)) d_X10_isBound_14 ?_
  refine xj_if_ne (tgt := 20) E d_X10_isBound_15 (by decide) (fun h15 => ?_) (fun h15 => ?_)
  · refine xj_aload_n E d_X10_isBound_20 rfl ?_
    refine xj_iload_n E d_X10_isBound_21 rfl ?_
    refine xj_callV E (k_X10_close l G hI i nt _ (by omega) hT hR) cw_X10_140 cv_X10_close (by decide) rfl rfl rfl ⟨by decide, by decide⟩ (Nat.le_of_ble_eq_true rfl) d_X10_isBound_22 ⟨Nat.zero_le _, Nat.zero_le _⟩ (fun r22 μ22 ho22 hp22 => ?_)
    obtain ⟨rfl, l1, hc, hok, hlen, hfr⟩ := hp22
    have hty := mOK_lt hT hR (fun q hq => (hok.2 q.1 q.2).mp hq)
    have hf1 : fIs μ22 fl := hf.keep (hfr.2 0 27 (by decide)) (hfr.1 58 (by decide) (by decide)) (hfr.1 59 (by decide) (by decide))
    have hnb : 0 < mnb μ i := by
      apply Classical.byContradiction
      intro q
      apply h15
      rw [hci, hR.1.1, show mnb μ i = 0 by omega]
      rfl
    refine xj_iconst (v := 0) E d_X10_isBound_25 (by decide) ?_
    refine xj_istore_n E d_X10_isBound_26 (by decide) rfl ?_
    refine lps _ l1 hc (by omega) hty hf1 _ (fun hall => ?_) (fun L0 hL0 hno => ?_)
    · refine xj_iconst (v := 1) E d_X10_isBound_109 (by decide) ?_
      exact xj_zret E hr hlk (Or.inr rfl) d_X10_isBound_110 (by rw [bq_t (show (¬ μ 38 0 i = 0 ∧ 0 < mnb μ i ∧ ∀ t v, mPair μ i t v → (t, v) ∈ fl) from ⟨fun q => h6 (by rw [hci]; exact q), hnb, fun t v hp => hall _ ((hok.2 t v).mpr hp)⟩)]; exact ⟨rfl, hfr⟩)
    · refine xj_iconst (v := 0) E d_X10_isBound_101 (by decide) ?_
      exact xj_zret E hr hlk (Or.inl rfl) d_X10_isBound_102 (by rw [bq_f (show ¬ (¬ μ 38 0 i = 0 ∧ 0 < mnb μ i ∧ ∀ t v, mPair μ i t v → (t, v) ∈ fl) from fun q => hno (fun p hp => q.2.2 p.1 p.2 ((hok.2 p.1 p.2).mp hp)))]; exact ⟨rfl, hfr⟩)
  refine xj_iconst (v := 0) E d_X10_isBound_18 (by decide) ?_
  exact xj_zret E hr hlk (Or.inl rfl) d_X10_isBound_19 (by first | (rw [bq_f (show ¬ (¬ μ 38 0 i = 0 ∧ 0 < mnb μ i ∧ ∀ t v, mPair μ i t v → (t, v) ∈ fl) from fun q => by rw [hci, hR.1.1] at h15; exact nI_ne0 q.2.1 (by omega) h15)]; exact ⟨rfl, frG.rf _ _ _⟩) | (rw [bq_f (show ¬ (¬ μ 38 0 i = 0 ∧ 0 < mnb μ i ∧ ∀ t v, mPair μ i t v → (t, v) ∈ fl) from fun q => q.1 (by rw [hci] at h6; exact h6))]; exact ⟨rfl, frG.rf _ _ _⟩))

/-- the reference's chain in memory -/
def nIs (μ : Mem) (cl : List Int32) : Prop := μ 24 0 30 = nI cl.length ∧ ∀ (k : Nat) (x : Int32), cl[k]? = some x → μ 61 0 k = x
theorem nIs.keep {μ μ' : Mem} {cl : List Int32} (h : nIs μ cl) (h1 : μ' 24 0 30 = μ 24 0 30) (h2 : μ' 61 = μ 61) : nIs μ' cl := by
  unfold nIs
  rw [h1, h2]
  exact h
theorem nIs.app {μ : Mem} {cl : List Int32} {x : Int32} (h : nIs μ cl) : nIs (mset (mset μ 61 0 cl.length x) 24 0 30 (nI (cl.length + 1))) (cl ++ [x]) := by
  refine ⟨by rw [mset_at]; simp, fun k y hk => ?_⟩
  rw [mset_f (by decide), mset_same]
  by_cases e : k < cl.length
  · rw [List.getElem?_append_left e] at hk
    rw [upd_ne (by omega)]
    exact h.2 k y hk
  · rw [List.getElem?_append_right (by omega)] at hk
    have hz : k - cl.length < 1 := (List.getElem?_eq_some_iff.mp hk).1
    have e2 : k = cl.length := by omega
    subst e2
    simp at hk
    subst hk
    rw [upd_at]
abbrev frN : Mem → Mem → Prop := frG [61] [30]
theorem frN_app {μ : Mem} {a b x : Nat} {y z : Int32} : frN μ (mset (mset μ 61 a b y) 24 0 30 z) := (frG_f (by decide) (by decide)).tr (frG_o (by decide))
def mLs (μ : Mem) (r : Nat) (kind : Int32) : Nat → List Nat
  | 0 => []
  | n + 1 => if μ 39 0 (μ 53 0 (4 * r + n)).toNatClampNeg &&& kind = 0 then mLs μ r kind n else mLs μ r kind n ++ [(μ 53 0 (4 * r + n)).toNatClampNeg]
theorem mLs_len (μ : Mem) (r : Nat) (kind : Int32) : ∀ n, (mLs μ r kind n).length ≤ n
  | 0 => Nat.le_refl _
  | n + 1 => by
    have := mLs_len μ r kind n
    unfold mLs
    split
    · omega
    · simp; exact this

set_option maxRecDepth 100000 in
set_option maxHeartbeats 4000000 in
/-- X10 link -/
theorem k_X10_link (l : Launch) (G : XG) (hI : XI G) (i : Nat) (kind : Int32) (cl : List Int32) (μ : Mem) (hi : i < 8) (hc : nIs μ cl) (hl : cl.length < 24) : XMet l G y_X10_link c_X10_link 3 none 0 [.inr (24, 0), .inl (nI i), .inl kind] μ (fun rr μ' => rr = none ∧ nIs μ' (if μ 39 0 i &&& kind = 0 then cl else cl ++ [nI i]) ∧ frN μ μ') := by
  refine xj_met (by decide) hI (Nat.le_of_ble_eq_true rfl) ?_
  intro p e s m args below meth c E hr hlk
  have E : XE G (xA G) RX10 c_X10_link 3 p s m args c := E
  refine xj_loc (L' := [some (.inr (24, 0)), some (.inl (nI i)), some (.inl kind)]) rfl ?_
  have hci : (nI i).toNatClampNeg = i := cl_nI (by omega)
  have hin : vp_in (μ 24 0 30) 24 := by rw [hc.1]; exact in_nI hl (by omega)
  have hcl : (μ 24 0 30).toNatClampNeg = cl.length := by rw [hc.1]; exact cl_nI (by omega)
  refine xj_aload_n E d_X10_link_0 rfl ?_
  refine xj_geta E fl_X10_26 (by decide) rfl (by decide) rfl d_X10_link_1 ?_
  refine xj_iload_n E d_X10_link_4 rfl ?_
  refine xj_iald E (by decide) (show vp_in (nI i) 8 from in_nI hi (by omega)) d_X10_link_5 ?_
  refine xj_iload_n E d_X10_link_6 rfl ?_
  refine xj_iand E d_X10_link_7 ?_
  refine xj_if_eq (tgt := 31) E d_X10_link_8 (by decide) (fun h8 => ?_) (fun h8 => ?_)
  · exact xj_vret E hr hlk d_X10_link_31 (by first | (refine ⟨rfl, ?_, frN_app (x := 0)⟩; rw [hci] at h8; rw [if_neg h8]; show nIs (mset (mset μ 61 0 (μ 24 0 30).toNatClampNeg (nI i)) 24 0 30 (μ 24 0 30 + 1)) _; rw [hcl, hc.1, nI_1]; exact hc.app) | (refine ⟨rfl, ?_, frG.rf _ _ _⟩; rw [hci] at h8; rw [if_pos h8]; exact hc))
  refine xj_aload_n E d_X10_link_11 rfl ?_
  refine xj_geta E fl_X10_77 (by decide) rfl (by decide) rfl d_X10_link_12 ?_
  refine xj_aload_n E d_X10_link_15 rfl ?_
  refine xj_geti E fl_X10_150 (by decide) rfl (by decide) rfl d_X10_link_16 ?_
  refine xj_iload_n E d_X10_link_19 rfl ?_
  refine xj_iast E (by decide) hin d_X10_link_20 ?_
  refine xj_aload_n E d_X10_link_21 rfl ?_
  refine xj_dup E d_X10_link_22 ?_
  refine xj_geti E fl_X10_150 (by decide) rfl (by decide) rfl d_X10_link_23 ?_
  refine xj_iconst (v := 1) E d_X10_link_26 (by decide) ?_
  refine xj_iadd E d_X10_link_27 ?_
  refine xj_put E fp_X10_150 (by decide) rfl (by decide) rfl (narrow_i _) d_X10_link_28 ?_
  exact xj_vret E hr hlk d_X10_link_31 (by first | (refine ⟨rfl, ?_, frN_app (x := 0)⟩; rw [hci] at h8; rw [if_neg h8]; show nIs (mset (mset μ 61 0 (μ 24 0 30).toNatClampNeg (nI i)) 24 0 30 (μ 24 0 30 + 1)) _; rw [hcl, hc.1, nI_1]; exact hc.app) | (refine ⟨rfl, ?_, frG.rf _ _ _⟩; rw [hci] at h8; rw [if_pos h8]; exact hc))

set_option maxRecDepth 100000 in
set_option maxHeartbeats 4000000 in
/-- X10 linkList -/
theorem k_X10_linkList (l : Launch) (G : XG) (hI : XI G) (r ni : Nat) (kind : Int32) (cl : List Int32) (μ : Mem) (hr28 : r < 28) (hni : ni ≤ 8) (hq : (μ 52 0 r = nI (mnl μ r) ∧ mnl μ r ≤ 4) ∧ ∀ k, k < mnl μ r → ∃ i, i < ni ∧ μ 53 0 (4 * r + k) = nI i) (hc : nIs μ cl) (hl : cl.length ≤ 4) : XMet l G y_X10_linkList c_X10_linkList 4 none 1 [.inr (24, 0), .inl (nI r), .inl kind] μ (fun rr μ' => rr = none ∧ nIs μ' (cl ++ (mLs μ r kind (mnl μ r)).map nI) ∧ frN μ μ') := by
  refine xj_met (by decide) hI (Nat.le_of_ble_eq_true rfl) ?_
  intro p e s m args below meth c E hr hlk
  have E : XE G (xA G) RX10 c_X10_linkList 4 p s m args c := E
  refine xj_loc (L' := [some (.inr (24, 0)), some (.inl (nI r)), some (.inl kind), none]) rfl ?_
  have hcr : (nI r).toNatClampNeg = r := cl_nI (by omega)
  have lp : ∀ (Q : State → Prop) (n k : Nat) (μ1 : Mem), mnl μ r - k = n → k ≤ mnl μ r → frN μ μ1 → nIs μ1 (cl ++ (mLs μ r kind k).map nI) → (∀ μ2, frN μ μ2 → nIs μ2 (cl ++ (mLs μ r kind (mnl μ r)).map nI) → XJ G (xA G) 4 p l e (xr 1) s m args below meth c 0 0 Q 33 [some (.inr (24, 0)), some (.inl (nI r)), some (.inl kind), some (.inl (nI (mnl μ r)))] [] μ2) → XJ G (xA G) 4 p l e (xr 1) s m args below meth c 0 0 Q 2 [some (.inr (24, 0)), some (.inl (nI r)), some (.inl kind), some (.inl (nI k))] [] μ1 := by
    intro Q n
    induction n using Nat.strongRecOn with
    | _ n ih =>
    intro k μ1 hn hk hfr hc1 hx
    have e52 := hfr.1 52 (by decide) (by decide)
    have e53 := hfr.1 53 (by decide) (by decide)
    have e39 := hfr.1 39 (by decide) (by decide)
    have hln := mLs_len μ r kind k
    refine xj_iload_n E d_X10_linkList_2 rfl ?_
    refine xj_aload_n E d_X10_linkList_3 rfl ?_
    refine xj_geta E fl_X10_59 (by decide) rfl (by decide) rfl d_X10_linkList_4 ?_
    refine xj_iload_n E d_X10_linkList_7 rfl ?_
    refine xj_iald E (by decide) (show vp_in (nI r) 28 from in_nI hr28 (by omega)) d_X10_linkList_8 ?_
    refine xj_st (st' := [.inl (nI (mnl μ r)), .inl (nI k)]) (by rw [hcr, e52, hq.1.1]) ?_
    refine xj_icmp_ge (tgt := 33) E d_X10_linkList_9 (by decide) (fun h9 => ?_) (fun h9 => ?_)
    · have hk8 : k = mnl μ r := by
        have := ge_nI h9 (by omega) (by omega)
        omega
      subst hk8
      exact hx _ hfr hc1
    have hlt : k < mnl μ r := ng_nI h9 (by omega) (by omega)
    obtain ⟨i, hi, hli⟩ := hq.2 k hlt
    refine xj_aload_n E d_X10_linkList_12 rfl ?_
    refine xj_aload_n E d_X10_linkList_13 rfl ?_
    refine xj_geta E fl_X10_62 (by decide) rfl (by decide) rfl d_X10_linkList_14 ?_
    refine xj_iconst (v := 4) E d_X10_linkList_17 (by decide) ?_
    refine xj_iload_n E d_X10_linkList_18 rfl ?_
    refine xj_imul E d_X10_linkList_19 ?_
    refine xj_iload_n E d_X10_linkList_20 rfl ?_
    refine xj_iadd E d_X10_linkList_21 ?_
    refine xj_st (st' := [.inl (nI (4 * r + k)), .inr (53, 0), .inr (24, 0)]) (by rw [← ix4]) ?_
    refine xj_iald E (by decide) (show vp_in (nI (4 * r + k)) 112 from in_nI (by omega) (by omega)) d_X10_linkList_22 ?_
    refine xj_st (st' := [.inl (nI i), .inr (24, 0)]) (by rw [cl_nI (by omega), e53, hli]) ?_
    refine xj_iload_n E d_X10_linkList_23 rfl ?_
    refine xj_callV E (k_X10_link l G hI i kind (cl ++ (mLs μ r kind k).map nI) _ (by omega) hc1 (by simp; omega)) cw_X10_153 cv_X10_link (by decide) rfl rfl rfl ⟨by decide, by decide⟩ (Nat.le_of_ble_eq_true rfl) d_X10_linkList_24 ⟨Nat.zero_le _, Nat.zero_le _⟩ (fun r24 μ24 ho24 hp24 => ?_)
    obtain ⟨rfl, hc2, hfr2⟩ := hp24
    rw [e39] at hc2
    refine xj_iinc (v := nI (k + 1)) E d_X10_linkList_27 rfl (nI_inc k) rfl ?_
    refine xj_goto (tgt := 2) E d_X10_linkList_30 (by decide) ?_
    refine ih (mnl μ r - (k + 1)) (by omega) (k + 1) _ rfl (by omega) (hfr.tr hfr2) ?_ hx
    have hg : (μ 53 0 (4 * r + k)).toNatClampNeg = i := by rw [hli]; exact cl_nI (by omega)
    unfold mLs
    rw [hg]
    by_cases z : μ 39 0 i &&& kind = 0
    · rw [if_pos z] at hc2 ⊢
      exact hc2
    · rw [if_neg z] at hc2 ⊢
      rw [List.map_append, ← List.append_assoc]
      exact hc2
  refine xj_iconst (v := 0) E d_X10_linkList_0 (by decide) ?_
  refine xj_istore_n E d_X10_linkList_1 (by decide) rfl ?_
  refine lp _ (mnl μ r) 0 μ (by omega) (by omega) (frG.rf _ _ _) (by simpa [mLs] using hc) (fun μ2 hfr2 hc2 => ?_)
  exact xj_vret E hr hlk d_X10_linkList_33 (⟨rfl, hc2, hfr2⟩)
end
section
def kdM (k : Nat) : Int32 := if k < 4 then 1 else (1 : Int32) <<< ((nI k - 3) &&& 31)
noncomputable def bdM (μ : Mem) (FP : Nat → Int32 → Prop) (kind : Int32) (p i : Nat) : Bool := decide (μ 38 0 i = nI (p + 1)) && (decide (¬ μ 39 0 i &&& kind = 0) && bq (0 < mnb μ i ∧ ∀ t v, mPair μ i t v → FP t v))
theorem bdM_u (μ : Mem) (FP : Nat → Int32 → Prop) (kind : Int32) : ∀ p p' i, p < 9 → p' < 9 → bdM μ FP kind p i = true → bdM μ FP kind p' i = true → p = p' := by
  intro p p' i hp hp' h1 h2
  unfold bdM at h1 h2
  simp only [Bool.and_eq_true, decide_eq_true_eq] at h1 h2
  have := (nI_eq (by omega) (by omega)).mp (h1.1.symm.trans h2.1)
  omega
def bdN (μ : Mem) (ot y : Int32) (p d : Nat) : Bool := decide (μ 42 0 d = nI (p + 1)) && decide ((μ 44 0 d >>> (y &&& 31)) &&& 1 = 1 ∧ (ot >>> (μ 43 0 d &&& 31)) &&& 1 = 1)
theorem bdN_u (μ : Mem) (ot y : Int32) : ∀ p p' i, p < 9 → p' < 9 → bdN μ ot y p i = true → bdN μ ot y p' i = true → p = p' := by
  intro p p' i hp hp' h1 h2
  unfold bdN at h1 h2
  simp only [Bool.and_eq_true, decide_eq_true_eq] at h1 h2
  have := (nI_eq (by omega) (by omega)).mp (h1.1.symm.trans h2.1)
  omega
def mA1 (μ : Mem) (j k : Nat) : List Int32 := if k < 4 ∧ ¬ μ 48 0 (4 * j + k) &&& 2 = 0 then [] else (mLs μ (8 + j) (kdM k) (mnl μ (8 + j))).map nI
def mA2 (μ : Mem) (j k : Nat) : List Int32 := if k < 4 then (mLs μ (12 + 4 * j + k) (kdM k) (mnl μ (12 + 4 * j + k))).map nI else []
noncomputable def mBs (μ : Mem) (j k p i : Nat) : List Int32 := (sel (bdM μ (mFP μ j k) (kdM k)) (mni μ) p i).map nI
def mDs (μ : Mem) (j k p i : Nat) : List Int32 := (sel (bdN μ (μ 47 0 j) (nI k)) (mnd μ) p i).map (fun d => nI (16 + d))
noncomputable def mChn (μ : Mem) (j k : Nat) : List Int32 := mA1 μ j k ++ mA2 μ j k ++ mBs μ j k 9 0 ++ (if k < 4 then mDs μ j k 9 0 else []) ++ [32]
theorem mA1_len {μ : Mem} (hw : mWF μ) {j k : Nat} (hj : j < mnp μ) : (mA1 μ j k).length ≤ 4 := by
  have h := (hw.2.2.2.2.2 (5 * j) (by omega)).2.1.2
  rw [rq_own] at h
  unfold mA1
  split
  · simp
  · have := mLs_len μ (8 + j) (kdM k) (mnl μ (8 + j))
    rw [List.length_map]; omega
theorem mA2_len {μ : Mem} (hw : mWF μ) {j k : Nat} (hj : j < mnp μ) : (mA2 μ j k).length ≤ 4 := by
  unfold mA2
  split
  · rename_i h4
    have h := (hw.2.2.2.2.2 (5 * j + 1 + k) (by omega)).2.1.2
    rw [rq_m h4] at h
    have := mLs_len μ (12 + 4 * j + k) (kdM k) (mnl μ (12 + 4 * j + k))
    rw [List.length_map]; omega
  · simp
theorem mBs_len {μ : Mem} (hw : mWF μ) {j k p i : Nat} (hp : p ≤ 9) (hi : i ≤ mni μ) (hq : p < 9 ∨ i = 0) : (mBs μ j k p i).length ≤ 8 := by
  have := sel_len (n := mni μ) (bdM_u μ (mFP μ j k) (kdM k)) hp hi hq
  have := hw.2.1.2
  unfold mBs
  rw [List.length_map]; omega
theorem mDs_len {μ : Mem} (hw : mWF μ) {j k p i : Nat} (hp : p ≤ 9) (hi : i ≤ mnd μ) (hq : p < 9 ∨ i = 0) : (mDs μ j k p i).length ≤ 4 := by
  have := sel_len (n := mnd μ) (bdN_u μ (μ 47 0 j) (nI k)) hp hi hq
  have := hw.2.2.1.2
  unfold mDs
  rw [List.length_map]; omega

theorem frN.u {μ μ' : Mem} (h : frN μ μ') : frL μ μ' := h.up (by decide) (by decide)
theorem frD.ml {μ μ' : Mem} (h : frD μ μ') (r : Nat) (kind : Int32) : ∀ n, mLs μ' r kind n = mLs μ r kind n
  | 0 => rfl
  | n + 1 => by unfold mLs; rw [h.ml r kind n, h.1 39 (by decide), h.1 53 (by decide)]

set_option maxRecDepth 100000 in
set_option maxHeartbeats 4000000 in
/-- X10 build -/
theorem k_X10_build (l : Launch) (G : XG) (hI : XI G) (j k : Nat) (μ : Mem) (hw : mWF μ) (hj : j < mnp μ) (hk7 : k < 7) : XMet l G y_X10_build c_X10_build 6 none 3 [.inr (24, 0), .inl (nI j), .inl (nI k)] μ (fun rr μ' => rr = none ∧ nIs μ' (mChn μ j k) ∧ frL μ μ') := by
  refine xj_met (by decide) hI (Nat.le_of_ble_eq_true rfl) ?_
  intro p e s m args below meth c E hr hlk
  have E : XE G (xA G) RX10 c_X10_build 6 p s m args c := E
  refine xj_loc (L' := [some (.inr (24, 0)), some (.inl (nI j)), some (.inl (nI k)), none, none, none]) rfl ?_
  have hnp := hw.2.2.2.1
  have hnd4 := hw.2.2.1.2
  have hni8 := hw.2.1.2
  have hl1 := mA1_len hw (k := k) hj
  have hl2 := mA2_len hw (k := k) hj
  have hl3 := mBs_len hw (j := j) (k := k) (p := 9) (i := 0) (by omega) (by omega) (Or.inr rfl)
  have sE : ∀ (μ1 : Mem) (x : Option XV), frL μ μ1 → nIs μ1 ((mA1 μ j k ++ mA2 μ j k ++ mBs μ j k 9 0) ++ (if k < 4 then mDs μ j k 9 0 else [])) → XJ G (xA G) 6 p l e (xr 3) s m args below meth c 0 0 (MQ below (xQ G (fun rr μ' => rr = none ∧ nIs μ' (mChn μ j k) ∧ frL μ μ')) args s 0 0 (xA G)) 245 [some (.inr (24, 0)), some (.inl (nI j)), some (.inl (nI k)), some (.inl (kdM k)), x, none] [] μ1 := by
    intro μ1 x hfr hc
    have hl4 : (if k < 4 then mDs μ j k 9 0 else []).length ≤ 4 := by
      split
      · exact mDs_len hw (by omega) (by omega) (Or.inr rfl)
      · simp
    have hll : ((mA1 μ j k ++ mA2 μ j k ++ mBs μ j k 9 0) ++ (if k < 4 then mDs μ j k 9 0 else [])).length ≤ 20 := by simp only [List.length_append]; omega
    have hin : vp_in (μ1 24 0 30) 24 := by rw [hc.1]; exact in_nI (by omega) (by omega)
    have hcl : (μ1 24 0 30).toNatClampNeg = ((mA1 μ j k ++ mA2 μ j k ++ mBs μ j k 9 0) ++ (if k < 4 then mDs μ j k 9 0 else [])).length := by rw [hc.1]; exact cl_nI (by omega)
    refine xj_aload_n E d_X10_build_245 rfl ?_
    refine xj_geta E fl_X10_77 (by decide) rfl (by decide) rfl d_X10_build_246 ?_
    refine xj_aload_n E d_X10_build_249 rfl ?_
    refine xj_geti E fl_X10_150 (by decide) rfl (by decide) rfl d_X10_build_250 ?_
    refine xj_bipush (v := 32) E d_X10_build_253 (by decide) ?_
    refine xj_iast E (by decide) hin d_X10_build_255 ?_
    refine xj_aload_n E d_X10_build_256 rfl ?_
    refine xj_dup E d_X10_build_257 ?_
    refine xj_geti E fl_X10_150 (by decide) rfl (by decide) rfl d_X10_build_258 ?_
    refine xj_iconst (v := 1) E d_X10_build_261 (by decide) ?_
    refine xj_iadd E d_X10_build_262 ?_
    refine xj_put E fp_X10_150 (by decide) rfl (by decide) rfl (narrow_i _) d_X10_build_263 ?_
    exact xj_vret E hr hlk d_X10_build_266 (⟨rfl, by unfold mChn; show nIs (mset (mset μ1 61 0 (μ1 24 0 30).toNatClampNeg 32) 24 0 30 (μ1 24 0 30 + 1)) _; rw [hcl, hc.1, nI_1]; exact hc.app, hfr.tr (frN_app (x := 0)).u⟩)
  have lpd2 : k < 4 → ∀ (p1 n i : Nat) (μ1 : Mem), p1 < 9 → mnd μ - i = n → i ≤ mnd μ → frL μ μ1 → nIs μ1 ((mA1 μ j k ++ mA2 μ j k ++ mBs μ j k 9 0) ++ mDs μ j k p1 i) → (∀ μ2, frL μ μ2 → nIs μ2 ((mA1 μ j k ++ mA2 μ j k ++ mBs μ j k 9 0) ++ mDs μ j k p1 (mnd μ)) → XJ G (xA G) 6 p l e (xr 3) s m args below meth c 0 0 (MQ below (xQ G (fun rr μ' => rr = none ∧ nIs μ' (mChn μ j k) ∧ frL μ μ')) args s 0 0 (xA G)) 239 [some (.inr (24, 0)), some (.inl (nI j)), some (.inl (nI k)), some (.inl (kdM k)), some (.inl (nI (p1 + 1))), none] [] μ2) → XJ G (xA G) 6 p l e (xr 3) s m args below meth c 0 0 (MQ below (xQ G (fun rr μ' => rr = none ∧ nIs μ' (mChn μ j k) ∧ frL μ μ')) args s 0 0 (xA G)) 153 [some (.inr (24, 0)), some (.inl (nI j)), some (.inl (nI k)), some (.inl (kdM k)), some (.inl (nI (p1 + 1))), some (.inl (nI i))] [] μ1 := by
    intro hk4 p1 n
    induction n using Nat.strongRecOn with
    | _ n ih =>
    intro i μ1 hp1 hn hi hfr hc hx
    have hd := hfr.d
    have e2 : μ1 24 0 11 = nI (mnd μ) := (hd.2 11 (by decide)).trans hw.2.2.1.1
    have hlm := mDs_len hw (j := j) (k := k) (p := p1) (i := i) (by omega) hi (Or.inl hp1)
    have hll : ((mA1 μ j k ++ mA2 μ j k ++ mBs μ j k 9 0) ++ mDs μ j k p1 i).length ≤ 20 := by simp only [List.length_append]; omega
    have hcj : (nI j).toNatClampNeg = j := cl_nI (by omega)
    refine xj_iload E d_X10_build_153 rfl ?_
    refine xj_aload_n E d_X10_build_155 rfl ?_
    refine xj_geti E fl_X10_106 (by decide) rfl (by decide) rfl d_X10_build_156 ?_
    refine xj_icmp_ge (tgt := 239) E d_X10_build_159 (by decide) (fun h159 => ?_) (fun h159 => ?_)
    · have hk8 : i = mnd μ := by
        have := ge_nI (b := i) (by rw [← e2]; exact h159) (by omega) (by omega)
        omega
      subst hk8
      refine xj_forget 5 ?_
      exact hx _ hfr hc
    have hlt : i < mnd μ := ng_nI (b := i) (by rw [← e2]; exact h159) (by omega) (by omega)
    have hin : vp_in (nI i) 4 := in_nI (by omega) (by omega)
    have hci : (nI i).toNatClampNeg = i := cl_nI (by omega)
    have e42 := hd.1 42 (by decide)
    have e43 := hd.1 43 (by decide)
    have e44 := hd.1 44 (by decide)
    have e47 := hd.1 47 (by decide)
    refine xj_aload_n E d_X10_build_162 rfl ?_
    refine xj_geta E fl_X10_32 (by decide) rfl (by decide) rfl d_X10_build_163 ?_
    refine xj_iload E d_X10_build_166 rfl ?_
    refine xj_iald E (by decide) hin d_X10_build_168 ?_
    refine xj_iload E d_X10_build_169 rfl ?_
    refine xj_icmp_ne (tgt := 233) E d_X10_build_171 (by decide) (fun h171 => ?_) (fun h171 => ?_)
    · refine xj_iinc (v := nI (i + 1)) E d_X10_build_233 rfl (nI_inc i) rfl ?_
      refine xj_goto (tgt := 153) E d_X10_build_236 (by decide) ?_
      first
        | (refine ih (mnd μ - (i + 1)) (by omega) (i + 1) _ hp1 rfl (by omega) (hfr.tr (frN_app (x := 0)).u) ?_ hx
           unfold mDs
           rw [sel_yes hbd, List.map_append, ← List.append_assoc]
           show nIs (mset (mset μ1 61 0 (μ1 24 0 30).toNatClampNeg (nI (16 + i))) 24 0 30 (μ1 24 0 30 + 1)) _
           rw [hcl, hc.1, nI_1]
           exact hc.app)
        | (refine ih (mnd μ - (i + 1)) (by omega) (i + 1) _ hp1 rfl (by omega) hfr ?_ hx
           have hbd : bdN μ (μ 47 0 j) (nI k) p1 i = false := by
             unfold bdN
             simp only [Bool.and_eq_false_iff, decide_eq_false_iff_not]
             first
               | (rw [hci, hcj, e43, e47] at h206; exact Or.inr (fun q => h206 q.2))
               | (rw [hci, e44] at h186; exact Or.inr (fun q => h186 q.1))
               | (rw [hci, e42] at h171; exact Or.inl h171)
           unfold mDs
           rw [sel_no hbd]
           exact hc)
    refine xj_aload_n E d_X10_build_174 rfl ?_
    refine xj_geta E fl_X10_38 (by decide) rfl (by decide) rfl d_X10_build_175 ?_
    refine xj_iload E d_X10_build_178 rfl ?_
    refine xj_iald E (by decide) hin d_X10_build_180 ?_
    refine xj_iload_n E d_X10_build_181 rfl ?_
    refine xj_ishr E d_X10_build_182 ?_
    refine xj_iconst (v := 1) E d_X10_build_183 (by decide) ?_
    refine xj_iand E d_X10_build_184 ?_
    refine xj_iconst (v := 1) E d_X10_build_185 (by decide) ?_
    refine xj_icmp_ne (tgt := 233) E d_X10_build_186 (by decide) (fun h186 => ?_) (fun h186 => ?_)
    · refine xj_iinc (v := nI (i + 1)) E d_X10_build_233 rfl (nI_inc i) rfl ?_
      refine xj_goto (tgt := 153) E d_X10_build_236 (by decide) ?_
      first
        | (refine ih (mnd μ - (i + 1)) (by omega) (i + 1) _ hp1 rfl (by omega) (hfr.tr (frN_app (x := 0)).u) ?_ hx
           unfold mDs
           rw [sel_yes hbd, List.map_append, ← List.append_assoc]
           show nIs (mset (mset μ1 61 0 (μ1 24 0 30).toNatClampNeg (nI (16 + i))) 24 0 30 (μ1 24 0 30 + 1)) _
           rw [hcl, hc.1, nI_1]
           exact hc.app)
        | (refine ih (mnd μ - (i + 1)) (by omega) (i + 1) _ hp1 rfl (by omega) hfr ?_ hx
           have hbd : bdN μ (μ 47 0 j) (nI k) p1 i = false := by
             unfold bdN
             simp only [Bool.and_eq_false_iff, decide_eq_false_iff_not]
             first
               | (rw [hci, hcj, e43, e47] at h206; exact Or.inr (fun q => h206 q.2))
               | (rw [hci, e44] at h186; exact Or.inr (fun q => h186 q.1))
               | (rw [hci, e42] at h171; exact Or.inl h171)
           unfold mDs
           rw [sel_no hbd]
           exact hc)
    refine xj_aload_n E d_X10_build_189 rfl ?_
    refine xj_geta E fl_X10_44 (by decide) rfl (by decide) rfl d_X10_build_190 ?_
    refine xj_iload_n E d_X10_build_193 rfl ?_
    refine xj_iald E (by decide) (show vp_in (nI j) 4 from in_nI (by omega) (by omega)) d_X10_build_194 ?_
    refine xj_aload_n E d_X10_build_195 rfl ?_
    refine xj_geta E fl_X10_35 (by decide) rfl (by decide) rfl d_X10_build_196 ?_
    refine xj_iload E d_X10_build_199 rfl ?_
    refine xj_iald E (by decide) hin d_X10_build_201 ?_
    refine xj_ishr E d_X10_build_202 ?_
    refine xj_iconst (v := 1) E d_X10_build_203 (by decide) ?_
    refine xj_iand E d_X10_build_204 ?_
    refine xj_iconst (v := 1) E d_X10_build_205 (by decide) ?_
    refine xj_icmp_ne (tgt := 233) E d_X10_build_206 (by decide) (fun h206 => ?_) (fun h206 => ?_)
    · refine xj_iinc (v := nI (i + 1)) E d_X10_build_233 rfl (nI_inc i) rfl ?_
      refine xj_goto (tgt := 153) E d_X10_build_236 (by decide) ?_
      first
        | (refine ih (mnd μ - (i + 1)) (by omega) (i + 1) _ hp1 rfl (by omega) (hfr.tr (frN_app (x := 0)).u) ?_ hx
           unfold mDs
           rw [sel_yes hbd, List.map_append, ← List.append_assoc]
           show nIs (mset (mset μ1 61 0 (μ1 24 0 30).toNatClampNeg (nI (16 + i))) 24 0 30 (μ1 24 0 30 + 1)) _
           rw [hcl, hc.1, nI_1]
           exact hc.app)
        | (refine ih (mnd μ - (i + 1)) (by omega) (i + 1) _ hp1 rfl (by omega) hfr ?_ hx
           have hbd : bdN μ (μ 47 0 j) (nI k) p1 i = false := by
             unfold bdN
             simp only [Bool.and_eq_false_iff, decide_eq_false_iff_not]
             first
               | (rw [hci, hcj, e43, e47] at h206; exact Or.inr (fun q => h206 q.2))
               | (rw [hci, e44] at h186; exact Or.inr (fun q => h186 q.1))
               | (rw [hci, e42] at h171; exact Or.inl h171)
           unfold mDs
           rw [sel_no hbd]
           exact hc)
    have hbd : bdN μ (μ 47 0 j) (nI k) p1 i = true := by
      rw [hci, e42] at h171
      rw [hci, e44] at h186
      rw [hci, hcj, e43, e47] at h206
      unfold bdN
      simp only [Bool.and_eq_true, decide_eq_true_eq]
      exact ⟨h171, h186, h206⟩
    have hin2 : vp_in (μ1 24 0 30) 24 := by rw [hc.1]; exact in_nI (by omega) (by omega)
    have hcl : (μ1 24 0 30).toNatClampNeg = ((mA1 μ j k ++ mA2 μ j k ++ mBs μ j k 9 0) ++ mDs μ j k p1 i).length := by rw [hc.1]; exact cl_nI (by omega)
    refine xj_aload_n E d_X10_build_209 rfl ?_
    refine xj_geta E fl_X10_77 (by decide) rfl (by decide) rfl d_X10_build_210 ?_
    refine xj_aload_n E d_X10_build_213 rfl ?_
    refine xj_geti E fl_X10_150 (by decide) rfl (by decide) rfl d_X10_build_214 ?_
    refine xj_bipush (v := 16) E d_X10_build_217 (by decide) ?_
    refine xj_iload E d_X10_build_219 rfl ?_
    refine xj_iadd E d_X10_build_221 ?_
    refine xj_st (st' := [.inl (nI (16 + i)), .inl (μ1 24 0 30), .inr (61, 0)]) (by rw [← nI_add]; rfl) ?_
    refine xj_iast E (by decide) hin2 d_X10_build_222 ?_
    refine xj_aload_n E d_X10_build_223 rfl ?_
    refine xj_dup E d_X10_build_224 ?_
    refine xj_geti E fl_X10_150 (by decide) rfl (by decide) rfl d_X10_build_225 ?_
    refine xj_iconst (v := 1) E d_X10_build_228 (by decide) ?_
    refine xj_iadd E d_X10_build_229 ?_
    refine xj_put E fp_X10_150 (by decide) rfl (by decide) rfl (narrow_i _) d_X10_build_230 ?_
    refine xj_iinc (v := nI (i + 1)) E d_X10_build_233 rfl (nI_inc i) rfl ?_
    refine xj_goto (tgt := 153) E d_X10_build_236 (by decide) ?_
    first
      | (refine ih (mnd μ - (i + 1)) (by omega) (i + 1) _ hp1 rfl (by omega) (hfr.tr (frN_app (x := 0)).u) ?_ hx
         unfold mDs
         rw [sel_yes hbd, List.map_append, ← List.append_assoc]
         show nIs (mset (mset μ1 61 0 (μ1 24 0 30).toNatClampNeg (nI (16 + i))) 24 0 30 (μ1 24 0 30 + 1)) _
         rw [hcl, hc.1, nI_1]
         exact hc.app)
      | (refine ih (mnd μ - (i + 1)) (by omega) (i + 1) _ hp1 rfl (by omega) hfr ?_ hx
         have hbd : bdN μ (μ 47 0 j) (nI k) p1 i = false := by
           unfold bdN
           simp only [Bool.and_eq_false_iff, decide_eq_false_iff_not]
           first
             | (rw [hci, hcj, e43, e47] at h206; exact Or.inr (fun q => h206 q.2))
             | (rw [hci, e44] at h186; exact Or.inr (fun q => h186 q.1))
             | (rw [hci, e42] at h171; exact Or.inl h171)
         unfold mDs
         rw [sel_no hbd]
         exact hc)
  have lpd1 : k < 4 → ∀ (n p1 : Nat) (μ1 : Mem), 9 - p1 = n → p1 ≤ 9 → frL μ μ1 → nIs μ1 ((mA1 μ j k ++ mA2 μ j k ++ mBs μ j k 9 0) ++ mDs μ j k p1 0) → XJ G (xA G) 6 p l e (xr 3) s m args below meth c 0 0 (MQ below (xQ G (fun rr μ' => rr = none ∧ nIs μ' (mChn μ j k) ∧ frL μ μ')) args s 0 0 (xA G)) 138 [some (.inr (24, 0)), some (.inl (nI j)), some (.inl (nI k)), some (.inl (kdM k)), some (.inl (nI (p1 + 1))), none] [] μ1 := by
    intro hk4 n
    induction n using Nat.strongRecOn with
    | _ n ih =>
    intro p1 μ1 hn hp1 hfr hc
    refine xj_iload E d_X10_build_138 rfl ?_
    refine xj_bipush (v := 9) E d_X10_build_140 (by decide) ?_
    refine xj_icmp_gt (tgt := 245) E d_X10_build_142 (by decide) (fun h142 => ?_) (fun h142 => ?_)
    · have hk8 : p1 = 9 := by
        have := (nI_ltI (a := 9) (b := p1 + 1) (by omega) (by omega)).mp h142
        omega
      subst hk8
      exact sE _ _ hfr (by rw [if_pos hk4]; exact hc)
    have hlt : p1 < 9 := by
      have := Nat.not_lt.mp (fun q => h142 (nI_lt (a := 9) (b := p1 + 1) q (by omega)))
      omega
    refine xj_iload_n E d_X10_build_145 rfl ?_
    refine xj_iconst (v := 4) E d_X10_build_146 (by decide) ?_
    refine xj_icmp_ge (tgt := 245) E d_X10_build_147 (by decide) (fun h147 => absurd h147 (nI_ge (b := 4) hk4 (by omega))) (fun h147 => ?_)
    refine xj_iconst (v := 0) E d_X10_build_150 (by decide) ?_
    refine xj_istore E d_X10_build_151 (by decide) rfl ?_
    refine lpd2 hk4 p1 (mnd μ) 0 μ1 hlt (by omega) (by omega) hfr hc (fun μ2 hfr2 hc2 => ?_)
    refine xj_iinc (v := nI (p1 + 1 + 1)) E d_X10_build_239 rfl (nI_inc (p1 + 1)) rfl ?_
    refine xj_goto (tgt := 138) E d_X10_build_242 (by decide) ?_
    exact ih (9 - (p1 + 1)) (by omega) (p1 + 1) _ rfl (by omega) hfr2 (by unfold mDs; rw [← sel_next]; exact hc2)
  have sD : ∀ (μ1 : Mem) (x : Option XV), frL μ μ1 → nIs μ1 (mA1 μ j k ++ mA2 μ j k ++ mBs μ j k 9 0) → XJ G (xA G) 6 p l e (xr 3) s m args below meth c 0 0 (MQ below (xQ G (fun rr μ' => rr = none ∧ nIs μ' (mChn μ j k) ∧ frL μ μ')) args s 0 0 (xA G)) 135 [some (.inr (24, 0)), some (.inl (nI j)), some (.inl (nI k)), some (.inl (kdM k)), x, none] [] μ1 := by
    intro μ1 x hfr hc
    by_cases hk4 : k < 4
    · refine xj_iconst (v := 1) E d_X10_build_135 (by decide) ?_
      refine xj_istore E d_X10_build_136 (by decide) rfl ?_
      exact lpd1 hk4 9 0 μ1 rfl (by omega) hfr (by unfold mDs; rw [sel_0]; simpa using hc)
    · refine xj_iconst (v := 1) E d_X10_build_135 (by decide) ?_
      refine xj_istore E d_X10_build_136 (by decide) rfl ?_
      refine xj_iload E d_X10_build_138 rfl ?_
      refine xj_bipush (v := 9) E d_X10_build_140 (by decide) ?_
      refine xj_icmp_gt (tgt := 245) E d_X10_build_142 (by decide) (fun h142 => absurd h142 (by decide)) (fun h142 => ?_)
      refine xj_iload_n E d_X10_build_145 rfl ?_
      refine xj_iconst (v := 4) E d_X10_build_146 (by decide) ?_
      refine xj_icmp_ge (tgt := 245) E d_X10_build_147 (by decide) (fun h147 => ?_) (fun h147 => absurd (nI_le (a := 4) (b := k) (by omega) (by omega)) h147)
      exact sE _ _ hfr (by rw [if_neg hk4, List.append_nil]; exact hc)
  have lpb2 : ∀ (fl : PL) (p1 n i : Nat) (μ1 : Mem), (∀ t v, (t, v) ∈ fl ↔ mFP μ j k t v) → fl.length ≤ 40 → (∀ q, q ∈ fl → q.1 ≤ 1000) → p1 < 9 → mni μ - i = n → i ≤ mni μ → frL μ μ1 → fIs μ1 fl → nIs μ1 ((mA1 μ j k ++ mA2 μ j k) ++ mBs μ j k p1 i) → (∀ μ2, frL μ μ2 → fIs μ2 fl → nIs μ2 ((mA1 μ j k ++ mA2 μ j k) ++ mBs μ j k p1 (mni μ)) → XJ G (xA G) 6 p l e (xr 3) s m args below meth c 0 0 (MQ below (xQ G (fun rr μ' => rr = none ∧ nIs μ' (mChn μ j k) ∧ frL μ μ')) args s 0 0 (xA G)) 129 [some (.inr (24, 0)), some (.inl (nI j)), some (.inl (nI k)), some (.inl (kdM k)), some (.inl (nI (p1 + 1))), none] [] μ2) → XJ G (xA G) 6 p l e (xr 3) s m args below meth c 0 0 (MQ below (xQ G (fun rr μ' => rr = none ∧ nIs μ' (mChn μ j k) ∧ frL μ μ')) args s 0 0 (xA G)) 86 [some (.inr (24, 0)), some (.inl (nI j)), some (.inl (nI k)), some (.inl (kdM k)), some (.inl (nI (p1 + 1))), some (.inl (nI i))] [] μ1 := by
    intro fl p1 n
    induction n using Nat.strongRecOn with
    | _ n ih =>
    intro i μ1 hfp hfl hfy hp1 hn hi hfr hf hc hx
    have hd := hfr.d
    have e2 : μ1 24 0 7 = nI (mni μ) := (hd.2 7 (by decide)).trans hw.2.1.1
    have hlm := mBs_len hw (j := j) (k := k) (p := p1) (i := i) (by omega) hi (Or.inl hp1)
    have hll : ((mA1 μ j k ++ mA2 μ j k) ++ mBs μ j k p1 i).length ≤ 16 := by simp only [List.length_append]; omega
    refine xj_iload E d_X10_build_86 rfl ?_
    refine xj_aload_n E d_X10_build_88 rfl ?_
    refine xj_geti E fl_X10_103 (by decide) rfl (by decide) rfl d_X10_build_89 ?_
    refine xj_icmp_ge (tgt := 129) E d_X10_build_92 (by decide) (fun h92 => ?_) (fun h92 => ?_)
    · have hk8 : i = mni μ := by
        have := ge_nI (b := i) (by rw [← e2]; exact h92) (by omega) (by omega)
        omega
      subst hk8
      refine xj_forget 5 ?_
      exact hx _ hfr hf hc
    have hlt : i < mni μ := ng_nI (b := i) (by rw [← e2]; exact h92) (by omega) (by omega)
    have hin : vp_in (nI i) 8 := in_nI (by omega) (by omega)
    have hci : (nI i).toNatClampNeg = i := cl_nI (by omega)
    have e38 := hd.1 38 (by decide)
    have e39 := hd.1 39 (by decide)
    refine xj_aload_n E d_X10_build_95 rfl ?_
    refine xj_geta E fl_X10_23 (by decide) rfl (by decide) rfl d_X10_build_96 ?_
    refine xj_iload E d_X10_build_99 rfl ?_
    refine xj_iald E (by decide) hin d_X10_build_101 ?_
    refine xj_iload E d_X10_build_102 rfl ?_
    refine xj_icmp_ne (tgt := 123) E d_X10_build_104 (by decide) (fun h104 => ?_) (fun h104 => ?_)
    · refine xj_iinc (v := nI (i + 1)) E d_X10_build_123 rfl (nI_inc i) rfl ?_
      refine xj_goto (tgt := 86) E d_X10_build_126 (by decide) ?_
      first
        | (refine ih (mni μ - (i + 1)) (by omega) (i + 1) _ hfp hfl hfy hp1 rfl (by omega) ((hfr.tr hfr2.f.l).tr hfr3.u) hf3 ?_ hx
           unfold mBs
           by_cases z : μ 39 0 i &&& kdM k = 0
           · rw [if_pos z] at hc3
             have hbd : bdM μ (mFP μ j k) (kdM k) p1 i = false := by unfold bdM; simp [z]
             rw [sel_no hbd]
             exact hc3
           · rw [if_neg z] at hc3
             have hbd : bdM μ (mFP μ j k) (kdM k) p1 i = true := by
               unfold bdM
               simp only [Bool.and_eq_true, decide_eq_true_eq]
               rw [hci, e38] at h104
               exact ⟨h104, z, b10n h113⟩
             rw [sel_yes hbd, List.map_append, ← List.append_assoc]
             exact hc3)
        | (refine ih (mni μ - (i + 1)) (by omega) (i + 1) _ hfp hfl hfy hp1 rfl (by omega) (hfr.tr hfr2.f.l) hf2 ?_ hx
           unfold mBs
           have hbd : bdM μ (mFP μ j k) (kdM k) p1 i = false := by unfold bdM; rw [b10 h113]; simp
           rw [sel_no hbd]
           exact hc2)
        | (refine ih (mni μ - (i + 1)) (by omega) (i + 1) _ hfp hfl hfy hp1 rfl (by omega) hfr hf ?_ hx
           unfold mBs
           have hbd : bdM μ (mFP μ j k) (kdM k) p1 i = false := by
             rw [hci, e38] at h104
             unfold bdM; simp [h104]
           rw [sel_no hbd]
           exact hc)
    refine xj_aload_n E d_X10_build_107 rfl ?_
    refine xj_iload E d_X10_build_108 rfl ?_
    refine xj_callV E (k_X10_isBound l G hI i (mnt μ) fl _ (by omega) (by rw [hd.typ]; exact hw.1) (by rw [hd.row]; exact hw.2.2.2.2.1 i hlt) hf hfl hfy) cw_X10_162 cv_X10_isBound (by decide) rfl rfl rfl ⟨by decide, by decide⟩ (Nat.le_of_ble_eq_true rfl) d_X10_build_110 ⟨Nat.zero_le _, Nat.zero_le _⟩ (fun r110 μ110 ho110 hp110 => ?_)
    rw [hd.nb, hd.pair, e38] at hp110
    obtain ⟨rfl, hfr2⟩ := hp110
    have hf2 : fIs μ110 fl := hf.keep (hfr2.2 0 27 (by decide)) (hfr2.1 58 (by decide) (by decide)) (hfr2.1 59 (by decide) (by decide))
    have hc2 : nIs μ110 ((mA1 μ j k ++ mA2 μ j k) ++ mBs μ j k p1 i) := hc.keep (hfr2.2 0 30 (by decide)) (hfr2.1 61 (by decide) (by decide))
    have hbb : bq (¬ μ 38 0 i = 0 ∧ 0 < mnb μ i ∧ ∀ t v, mPair μ i t v → (t, v) ∈ fl) = bq (0 < mnb μ i ∧ ∀ t v, mPair μ i t v → mFP μ j k t v) := by
      simp only [hfp]
      have hz : ¬ μ 38 0 i = 0 := by
        rw [hci, e38] at h104
        rw [h104]
        exact nI_nz (by omega) (by omega)
      simp only [hz, not_false_eq_true, true_and]
    rw [hbb] at ho110 ⊢
    refine xj_if_eq (tgt := 123) E d_X10_build_113 (by decide) (fun h113 => ?_) (fun h113 => ?_)
    · refine xj_iinc (v := nI (i + 1)) E d_X10_build_123 rfl (nI_inc i) rfl ?_
      refine xj_goto (tgt := 86) E d_X10_build_126 (by decide) ?_
      first
        | (refine ih (mni μ - (i + 1)) (by omega) (i + 1) _ hfp hfl hfy hp1 rfl (by omega) ((hfr.tr hfr2.f.l).tr hfr3.u) hf3 ?_ hx
           unfold mBs
           by_cases z : μ 39 0 i &&& kdM k = 0
           · rw [if_pos z] at hc3
             have hbd : bdM μ (mFP μ j k) (kdM k) p1 i = false := by unfold bdM; simp [z]
             rw [sel_no hbd]
             exact hc3
           · rw [if_neg z] at hc3
             have hbd : bdM μ (mFP μ j k) (kdM k) p1 i = true := by
               unfold bdM
               simp only [Bool.and_eq_true, decide_eq_true_eq]
               rw [hci, e38] at h104
               exact ⟨h104, z, b10n h113⟩
             rw [sel_yes hbd, List.map_append, ← List.append_assoc]
             exact hc3)
        | (refine ih (mni μ - (i + 1)) (by omega) (i + 1) _ hfp hfl hfy hp1 rfl (by omega) (hfr.tr hfr2.f.l) hf2 ?_ hx
           unfold mBs
           have hbd : bdM μ (mFP μ j k) (kdM k) p1 i = false := by unfold bdM; rw [b10 h113]; simp
           rw [sel_no hbd]
           exact hc2)
        | (refine ih (mni μ - (i + 1)) (by omega) (i + 1) _ hfp hfl hfy hp1 rfl (by omega) hfr hf ?_ hx
           unfold mBs
           have hbd : bdM μ (mFP μ j k) (kdM k) p1 i = false := by
             rw [hci, e38] at h104
             unfold bdM; simp [h104]
           rw [sel_no hbd]
           exact hc)
    refine xj_aload_n E d_X10_build_116 rfl ?_
    refine xj_iload E d_X10_build_117 rfl ?_
    refine xj_iload_n E d_X10_build_119 rfl ?_
    refine xj_callV E (k_X10_link l G hI i (kdM k) ((mA1 μ j k ++ mA2 μ j k) ++ mBs μ j k p1 i) _ (by omega) hc2 (by omega)) cw_X10_153 cv_X10_link (by decide) rfl rfl rfl ⟨by decide, by decide⟩ (Nat.le_of_ble_eq_true rfl) d_X10_build_120 ⟨Nat.zero_le _, Nat.zero_le _⟩ (fun r120 μ120 ho120 hp120 => ?_)
    obtain ⟨rfl, hc3, hfr3⟩ := hp120
    rw [hfr2.1 39 (by decide) (by decide), e39] at hc3
    have hf3 : fIs μ120 fl := hf2.keep (hfr3.2 0 27 (by decide)) (hfr3.1 58 (by decide) (by decide)) (hfr3.1 59 (by decide) (by decide))
    refine xj_iinc (v := nI (i + 1)) E d_X10_build_123 rfl (nI_inc i) rfl ?_
    refine xj_goto (tgt := 86) E d_X10_build_126 (by decide) ?_
    first
      | (refine ih (mni μ - (i + 1)) (by omega) (i + 1) _ hfp hfl hfy hp1 rfl (by omega) ((hfr.tr hfr2.f.l).tr hfr3.u) hf3 ?_ hx
         unfold mBs
         by_cases z : μ 39 0 i &&& kdM k = 0
         · rw [if_pos z] at hc3
           have hbd : bdM μ (mFP μ j k) (kdM k) p1 i = false := by unfold bdM; simp [z]
           rw [sel_no hbd]
           exact hc3
         · rw [if_neg z] at hc3
           have hbd : bdM μ (mFP μ j k) (kdM k) p1 i = true := by
             unfold bdM
             simp only [Bool.and_eq_true, decide_eq_true_eq]
             rw [hci, e38] at h104
             exact ⟨h104, z, b10n h113⟩
           rw [sel_yes hbd, List.map_append, ← List.append_assoc]
           exact hc3)
      | (refine ih (mni μ - (i + 1)) (by omega) (i + 1) _ hfp hfl hfy hp1 rfl (by omega) (hfr.tr hfr2.f.l) hf2 ?_ hx
         unfold mBs
         have hbd : bdM μ (mFP μ j k) (kdM k) p1 i = false := by unfold bdM; rw [b10 h113]; simp
         rw [sel_no hbd]
         exact hc2)
      | (refine ih (mni μ - (i + 1)) (by omega) (i + 1) _ hfp hfl hfy hp1 rfl (by omega) hfr hf ?_ hx
         unfold mBs
         have hbd : bdM μ (mFP μ j k) (kdM k) p1 i = false := by
           rw [hci, e38] at h104
           unfold bdM; simp [h104]
         rw [sel_no hbd]
         exact hc)
  have lpb1 : ∀ (fl : PL) (n p1 : Nat) (μ1 : Mem), (∀ t v, (t, v) ∈ fl ↔ mFP μ j k t v) → fl.length ≤ 40 → (∀ q, q ∈ fl → q.1 ≤ 1000) → 9 - p1 = n → p1 ≤ 9 → frL μ μ1 → fIs μ1 fl → nIs μ1 ((mA1 μ j k ++ mA2 μ j k) ++ mBs μ j k p1 0) → XJ G (xA G) 6 p l e (xr 3) s m args below meth c 0 0 (MQ below (xQ G (fun rr μ' => rr = none ∧ nIs μ' (mChn μ j k) ∧ frL μ μ')) args s 0 0 (xA G)) 76 [some (.inr (24, 0)), some (.inl (nI j)), some (.inl (nI k)), some (.inl (kdM k)), some (.inl (nI (p1 + 1))), none] [] μ1 := by
    intro fl n
    induction n using Nat.strongRecOn with
    | _ n ih =>
    intro p1 μ1 hfp hfl hfy hn hp1 hfr hf hc
    refine xj_iload E d_X10_build_76 rfl ?_
    refine xj_bipush (v := 9) E d_X10_build_78 (by decide) ?_
    refine xj_icmp_gt (tgt := 135) E d_X10_build_80 (by decide) (fun h80 => ?_) (fun h80 => ?_)
    · have hk8 : p1 = 9 := by
        have := (nI_ltI (a := 9) (b := p1 + 1) (by omega) (by omega)).mp h80
        omega
      subst hk8
      exact sD _ _ hfr hc
    have hlt : p1 < 9 := by
      have := Nat.not_lt.mp (fun q => h80 (nI_lt (a := 9) (b := p1 + 1) q (by omega)))
      omega
    refine xj_iconst (v := 0) E d_X10_build_83 (by decide) ?_
    refine xj_istore E d_X10_build_84 (by decide) rfl ?_
    refine lpb2 fl p1 (mni μ) 0 μ1 hfp hfl hfy hlt (by omega) (by omega) hfr hf hc (fun μ2 hfr2 hf2 hc2 => ?_)
    refine xj_iinc (v := nI (p1 + 1 + 1)) E d_X10_build_129 rfl (nI_inc (p1 + 1)) rfl ?_
    refine xj_goto (tgt := 76) E d_X10_build_132 (by decide) ?_
    exact ih (9 - (p1 + 1)) (by omega) (p1 + 1) _ hfp hfl hfy rfl (by omega) hfr2 hf2 (by unfold mBs; rw [← sel_next]; exact hc2)
  have sC : ∀ (μ1 : Mem), frL μ μ1 → nIs μ1 (mA1 μ j k ++ mA2 μ j k) → XJ G (xA G) 6 p l e (xr 3) s m args below meth c 0 0 (MQ below (xQ G (fun rr μ' => rr = none ∧ nIs μ' (mChn μ j k) ∧ frL μ μ')) args s 0 0 (xA G)) 67 [some (.inr (24, 0)), some (.inl (nI j)), some (.inl (nI k)), some (.inl (kdM k)), none, none] [] μ1 := by
    intro μ1 hfr hc
    have hd := hfr.d
    refine xj_aload_n E d_X10_build_67 rfl ?_
    refine xj_iload_n E d_X10_build_68 rfl ?_
    refine xj_iload_n E d_X10_build_69 rfl ?_
    refine xj_callV E (k_X10_force l G hI j k _ (hd.wf hw) (by rw [hd.np]; exact hj) hk7) cw_X10_159 cv_X10_force (by decide) rfl rfl rfl ⟨by decide, by decide⟩ (Nat.le_of_ble_eq_true rfl) d_X10_build_70 ⟨Nat.zero_le _, Nat.zero_le _⟩ (fun r70 μ70 ho70 hp70 => ?_)
    obtain ⟨rfl, fl, hf, hfp, hfl, hfy, hfr2⟩ := hp70
    rw [hd.fp] at hfp
    have hc2 : nIs μ70 (mA1 μ j k ++ mA2 μ j k) := hc.keep (hfr2.2 0 30 (by decide)) (hfr2.1 61 (by decide) (by decide))
    refine xj_iconst (v := 1) E d_X10_build_73 (by decide) ?_
    refine xj_istore E d_X10_build_74 (by decide) rfl ?_
    exact lpb1 fl 9 0 _ hfp hfl hfy rfl (by omega) (hfr.tr hfr2.l) hf (by unfold mBs; rw [sel_0]; simpa using hc2)
  have sB : ∀ (μ1 : Mem), frL μ μ1 → nIs μ1 (mA1 μ j k) → XJ G (xA G) 6 p l e (xr 3) s m args below meth c 0 0 (MQ below (xQ G (fun rr μ' => rr = none ∧ nIs μ' (mChn μ j k) ∧ frL μ μ')) args s 0 0 (xA G)) 49 [some (.inr (24, 0)), some (.inl (nI j)), some (.inl (nI k)), some (.inl (kdM k)), none, none] [] μ1 := by
    intro μ1 hfr hc
    have hd := hfr.d
    refine xj_iload_n E d_X10_build_49 rfl ?_
    refine xj_iconst (v := 4) E d_X10_build_50 (by decide) ?_
    refine xj_icmp_ge (tgt := 67) E d_X10_build_51 (by decide) (fun h51 => ?_) (fun h51 => ?_)
    · first
        | exact sC _ (hfr.tr hfr2.u) (by unfold mA2; rw [if_pos hk4]; exact hc2)
        | exact sC _ hfr (by unfold mA2; rw [if_neg (fun q => nI_ge (b := 4) q (by omega) h51), List.append_nil]; exact hc)
    have hk4 : k < 4 := ng_nI (a := 4) h51 (by omega) (by omega)
    have hq1 := (hw.2.2.2.2.2 (5 * j + 1 + k) (by omega)).2
    rw [rq_m hk4] at hq1
    refine xj_aload_n E d_X10_build_54 rfl ?_
    refine xj_bipush (v := 12) E d_X10_build_55 (by decide) ?_
    refine xj_iconst (v := 4) E d_X10_build_57 (by decide) ?_
    refine xj_iload_n E d_X10_build_58 rfl ?_
    refine xj_imul E d_X10_build_59 ?_
    refine xj_iadd E d_X10_build_60 ?_
    refine xj_iload_n E d_X10_build_61 rfl ?_
    refine xj_iadd E d_X10_build_62 ?_
    refine xj_iload_n E d_X10_build_63 rfl ?_
    refine xj_st (st' := [.inl (kdM k), .inl (nI (12 + 4 * j + k)), .inr (24, 0)]) (by rw [← nI_add, ← nI_add, ← pk_mul]; rfl) ?_
    refine xj_callV E (k_X10_linkList l G hI (12 + 4 * j + k) (mni μ) (kdM k) (mA1 μ j k) _ (by omega) hw.2.1.2 (by rw [hd.nl, hd.1 52 (by decide), hd.1 53 (by decide)]; exact hq1) hc hl1) cw_X10_156 cv_X10_linkList (by decide) rfl rfl rfl ⟨by decide, by decide⟩ (Nat.le_of_ble_eq_true rfl) d_X10_build_64 ⟨Nat.zero_le _, Nat.zero_le _⟩ (fun r64 μ64 ho64 hp64 => ?_)
    obtain ⟨rfl, hc2, hfr2⟩ := hp64
    rw [hd.nl, hd.ml] at hc2
    first
      | exact sC _ (hfr.tr hfr2.u) (by unfold mA2; rw [if_pos hk4]; exact hc2)
      | exact sC _ hfr (by unfold mA2; rw [if_neg (fun q => nI_ge (b := 4) q (by omega) h51), List.append_nil]; exact hc)
  have sA : ∀ (μ1 : Mem), frL μ μ1 → nIs μ1 [] → ¬ (k < 4 ∧ ¬ μ 48 0 (4 * j + k) &&& 2 = 0) → XJ G (xA G) 6 p l e (xr 3) s m args below meth c 0 0 (MQ below (xQ G (fun rr μ' => rr = none ∧ nIs μ' (mChn μ j k) ∧ frL μ μ')) args s 0 0 (xA G)) 40 [some (.inr (24, 0)), some (.inl (nI j)), some (.inl (nI k)), some (.inl (kdM k)), none, none] [] μ1 := by
    intro μ1 hfr hc hno
    have hd := hfr.d
    have hq0 := (hw.2.2.2.2.2 (5 * j) (by omega)).2
    rw [rq_own] at hq0
    refine xj_aload_n E d_X10_build_40 rfl ?_
    refine xj_bipush (v := 8) E d_X10_build_41 (by decide) ?_
    refine xj_iload_n E d_X10_build_43 rfl ?_
    refine xj_iadd E d_X10_build_44 ?_
    refine xj_iload_n E d_X10_build_45 rfl ?_
    refine xj_st (st' := [.inl (kdM k), .inl (nI (8 + j)), .inr (24, 0)]) (by rw [← nI_add]; rfl) ?_
    refine xj_callV E (k_X10_linkList l G hI (8 + j) (mni μ) (kdM k) [] _ (by omega) hw.2.1.2 (by rw [hd.nl, hd.1 52 (by decide), hd.1 53 (by decide)]; exact hq0) hc (by simp)) cw_X10_156 cv_X10_linkList (by decide) rfl rfl rfl ⟨by decide, by decide⟩ (Nat.le_of_ble_eq_true rfl) d_X10_build_46 ⟨Nat.zero_le _, Nat.zero_le _⟩ (fun r46 μ46 ho46 hp46 => ?_)
    obtain ⟨rfl, hc2, hfr2⟩ := hp46
    rw [hd.nl, hd.ml, List.nil_append] at hc2
    exact sB _ (hfr.tr hfr2.u) (by unfold mA1; rw [if_neg hno]; exact hc2)
  have s0 : XJ G (xA G) 6 p l e (xr 3) s m args below meth c 0 0 (MQ below (xQ G (fun rr μ' => rr = none ∧ nIs μ' (mChn μ j k) ∧ frL μ μ')) args s 0 0 (xA G)) 15 [some (.inr (24, 0)), some (.inl (nI j)), some (.inl (nI k)), some (.inl (kdM k)), none, none] [] μ := by
    have fr0 : frL μ (mset μ 24 0 30 0) := frG_o (by decide)
    have hc0 : nIs (mset μ 24 0 30 0) [] := ⟨mset_at _ _ _ _ _, fun k x hk => by simp at hk⟩
    refine xj_aload_n E d_X10_build_15 rfl ?_
    refine xj_iconst (v := 0) E d_X10_build_16 (by decide) ?_
    refine xj_put E fp_X10_150 (by decide) rfl (by decide) rfl (narrow_i _) d_X10_build_17 ?_
    refine xj_iload_n E d_X10_build_20 rfl ?_
    refine xj_iconst (v := 4) E d_X10_build_21 (by decide) ?_
    refine xj_icmp_ge (tgt := 40) E d_X10_build_22 (by decide) (fun h22 => ?_) (fun h22 => ?_)
    · first
        | exact sA _ fr0 hc0 (fun q => q.2 (by rw [cl_nI (by omega)] at h37; exact h37))
        | exact sA _ fr0 hc0 (fun q => nI_ge (b := 4) q.1 (by omega) h22)
    have hk4 : k < 4 := ng_nI (a := 4) h22 (by omega) (by omega)
    refine xj_aload_n E d_X10_build_25 rfl ?_
    refine xj_geta E fl_X10_47 (by decide) rfl (by decide) rfl d_X10_build_26 ?_
    refine xj_iconst (v := 4) E d_X10_build_29 (by decide) ?_
    refine xj_iload_n E d_X10_build_30 rfl ?_
    refine xj_imul E d_X10_build_31 ?_
    refine xj_iload_n E d_X10_build_32 rfl ?_
    refine xj_iadd E d_X10_build_33 ?_
    refine xj_st (st' := [.inl (nI (4 * j + k)), .inr (48, 0)]) (by rw [← ix4]) ?_
    refine xj_iald E (by decide) (show vp_in (nI (4 * j + k)) 16 from in_nI (by omega) (by omega)) d_X10_build_34 ?_
    refine xj_iconst (v := 2) E d_X10_build_35 (by decide) ?_
    refine xj_iand E d_X10_build_36 ?_
    refine xj_if_ne (tgt := 49) E d_X10_build_37 (by decide) (fun h37 => ?_) (fun h37 => ?_)
    · refine sB _ fr0 ?_
      unfold mA1
      rw [if_pos ⟨hk4, fun q => h37 (by rw [cl_nI (by omega)]; exact q)⟩]
      exact hc0
    first
      | exact sA _ fr0 hc0 (fun q => q.2 (by rw [cl_nI (by omega)] at h37; exact h37))
      | exact sA _ fr0 hc0 (fun q => nI_ge (b := 4) q.1 (by omega) h22)
  refine xj_iload_n E d_X10_build_0 rfl ?_
  refine xj_iconst (v := 4) E d_X10_build_1 (by decide) ?_
  refine xj_icmp_ge (tgt := 9) E d_X10_build_2 (by decide) (fun h2 => ?_) (fun h2 => ?_)
  · refine xj_iconst (v := 1) E d_X10_build_9 (by decide) ?_
    refine xj_iload_n E d_X10_build_10 rfl ?_
    refine xj_iconst (v := 3) E d_X10_build_11 (by decide) ?_
    refine xj_isub E d_X10_build_12 ?_
    refine xj_ishl E d_X10_build_13 ?_
    refine xj_istore_n E d_X10_build_14 (by decide) rfl ?_
    first
      | (refine xj_loc (L' := [some (.inr (24, 0)), some (.inl (nI j)), some (.inl (nI k)), some (.inl (kdM k)), none, none]) (by unfold kdM; rw [if_neg (fun q => nI_ge (b := 4) q (by omega) h2)]; rfl) ?_
         exact s0)
      | (refine xj_loc (L' := [some (.inr (24, 0)), some (.inl (nI j)), some (.inl (nI k)), some (.inl (kdM k)), none, none]) (by unfold kdM; rw [if_pos (ng_nI (a := 4) h2 (by omega) (by omega))]; rfl) ?_
         exact s0)
  refine xj_iconst (v := 1) E d_X10_build_5 (by decide) ?_
  refine xj_goto (tgt := 14) E d_X10_build_6 (by decide) ?_
  refine xj_istore_n E d_X10_build_14 (by decide) rfl ?_
  first
    | (refine xj_loc (L' := [some (.inr (24, 0)), some (.inl (nI j)), some (.inl (nI k)), some (.inl (kdM k)), none, none]) (by unfold kdM; rw [if_neg (fun q => nI_ge (b := 4) q (by omega) h2)]; rfl) ?_
       exact s0)
    | (refine xj_loc (L' := [some (.inr (24, 0)), some (.inl (nI j)), some (.inl (nI k)), some (.inl (kdM k)), none, none]) (by unfold kdM; rw [if_pos (ng_nI (a := 4) h2 (by omega) (by omega))]; rfl) ?_
       exact s0)
end
