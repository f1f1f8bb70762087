section
-- ===== PART A: goes FIRST, ahead of the names: the tables' words, and 'selects' of the private methods out of them =====
/-- a private method of a class that the tables say can be made, by its rows of tables_1 -/
def lw_okq (q : MethodName × Nat) : Prop := (q.1.cls ≠ "java/lang/invoke/MethodHandle" ∧ q.1.cls ≠ "java/lang/invoke/VarHandle") ∧ Cond.instantiable q.1.cls q.2 ∈ tables_1 ∧ Cond.privateMethod q.1 ∈ tables_1 ∧ Cond.instanceMethod q.1 ∈ tables_1
theorem lw_p0 : lw_okq (⟨"FloorGraph$Floor", "barredAmong", "(II)I"⟩, 14) := ⟨⟨by decide +kernel, by decide +kernel⟩, List.mem_of_getElem? (i := 24) (by decide +kernel), List.mem_of_getElem? (i := 158) (by decide +kernel), List.mem_of_getElem? (i := 159) (by decide +kernel)⟩
theorem lw_p1 : lw_okq (⟨"java/lang/Throwable", "fillInStackTrace", "(I)Ljava/lang/Throwable;"⟩, 6) := ⟨⟨by decide +kernel, by decide +kernel⟩, List.mem_of_getElem? (i := 210) (by decide +kernel), List.mem_of_getElem? (i := 208) (by decide +kernel), List.mem_of_getElem? (i := 209) (by decide +kernel)⟩
theorem lw_p2 : lw_okq (⟨"FloorGraph$Floor", "addPiece", "(IIZ)I"⟩, 14) := ⟨⟨by decide +kernel, by decide +kernel⟩, List.mem_of_getElem? (i := 24) (by decide +kernel), List.mem_of_getElem? (i := 257) (by decide +kernel), List.mem_of_getElem? (i := 258) (by decide +kernel)⟩
theorem lw_p3 : lw_okq (⟨"FloorGraph", "needPiece", "(I)V"⟩, 12) := ⟨⟨by decide +kernel, by decide +kernel⟩, List.mem_of_getElem? (i := 16) (by decide +kernel), List.mem_of_getElem? (i := 268) (by decide +kernel), List.mem_of_getElem? (i := 269) (by decide +kernel)⟩
theorem lw_p4 : lw_okq (⟨"FloorGraph", "joinEnds", "(III)I"⟩, 12) := ⟨⟨by decide +kernel, by decide +kernel⟩, List.mem_of_getElem? (i := 16) (by decide +kernel), List.mem_of_getElem? (i := 279) (by decide +kernel), List.mem_of_getElem? (i := 280) (by decide +kernel)⟩
theorem lw_p5 : lw_okq (⟨"FloorGraph$Floor", "addJoin", "(III)I"⟩, 14) := ⟨⟨by decide +kernel, by decide +kernel⟩, List.mem_of_getElem? (i := 24) (by decide +kernel), List.mem_of_getElem? (i := 285) (by decide +kernel), List.mem_of_getElem? (i := 286) (by decide +kernel)⟩
theorem lw_p6 : lw_okq (⟨"FloorGraph$Floor", "addPassage", "(III)V"⟩, 14) := ⟨⟨by decide +kernel, by decide +kernel⟩, List.mem_of_getElem? (i := 24) (by decide +kernel), List.mem_of_getElem? (i := 289) (by decide +kernel), List.mem_of_getElem? (i := 290) (by decide +kernel)⟩
theorem lw_p7 : lw_okq (⟨"FloorGraph$Floor", "setZone", "(IIZ)I"⟩, 14) := ⟨⟨by decide +kernel, by decide +kernel⟩, List.mem_of_getElem? (i := 24) (by decide +kernel), List.mem_of_getElem? (i := 331) (by decide +kernel), List.mem_of_getElem? (i := 332) (by decide +kernel)⟩
theorem lw_p8 : lw_okq (⟨"FloorGraph$Floor", "shutPieces", "()I"⟩, 14) := ⟨⟨by decide +kernel, by decide +kernel⟩, List.mem_of_getElem? (i := 24) (by decide +kernel), List.mem_of_getElem? (i := 348) (by decide +kernel), List.mem_of_getElem? (i := 349) (by decide +kernel)⟩
theorem lw_p9 : lw_okq (⟨"FloorGraph$Floor", "hasPieceFor", "(I)Z"⟩, 14) := ⟨⟨by decide +kernel, by decide +kernel⟩, List.mem_of_getElem? (i := 24) (by decide +kernel), List.mem_of_getElem? (i := 360) (by decide +kernel), List.mem_of_getElem? (i := 361) (by decide +kernel)⟩
theorem lw_p10 : lw_okq (⟨"FloorGraph", "needJourney", "(IIII)V"⟩, 12) := ⟨⟨by decide +kernel, by decide +kernel⟩, List.mem_of_getElem? (i := 16) (by decide +kernel), List.mem_of_getElem? (i := 371) (by decide +kernel), List.mem_of_getElem? (i := 372) (by decide +kernel)⟩
theorem lw_p11 : lw_okq (⟨"FloorGraph$Drive", "begin", "(LFloorGraph$Floor;II)V"⟩, 3) := ⟨⟨by decide +kernel, by decide +kernel⟩, List.mem_of_getElem? (i := 92) (by decide +kernel), List.mem_of_getElem? (i := 376) (by decide +kernel), List.mem_of_getElem? (i := 377) (by decide +kernel)⟩
theorem lw_p12 : lw_okq (⟨"FloorGraph$Floor", "mayEnter", "(III)Z"⟩, 14) := ⟨⟨by decide +kernel, by decide +kernel⟩, List.mem_of_getElem? (i := 24) (by decide +kernel), List.mem_of_getElem? (i := 380) (by decide +kernel), List.mem_of_getElem? (i := 381) (by decide +kernel)⟩
theorem lw_p13 : lw_okq (⟨"FloorGraph$Drive", "spread", "(LFloorGraph$Floor;I)V"⟩, 3) := ⟨⟨by decide +kernel, by decide +kernel⟩, List.mem_of_getElem? (i := 92) (by decide +kernel), List.mem_of_getElem? (i := 384) (by decide +kernel), List.mem_of_getElem? (i := 385) (by decide +kernel)⟩
theorem lw_p14 : lw_okq (⟨"FloorGraph$Floor", "mayLeave", "(I)Z"⟩, 14) := ⟨⟨by decide +kernel, by decide +kernel⟩, List.mem_of_getElem? (i := 24) (by decide +kernel), List.mem_of_getElem? (i := 392) (by decide +kernel), List.mem_of_getElem? (i := 393) (by decide +kernel)⟩
theorem lw_p15 : lw_okq (⟨"FloorGraph$Drive", "spreadOnce", "(LFloorGraph$Floor;)Z"⟩, 3) := ⟨⟨by decide +kernel, by decide +kernel⟩, List.mem_of_getElem? (i := 92) (by decide +kernel), List.mem_of_getElem? (i := 396) (by decide +kernel), List.mem_of_getElem? (i := 397) (by decide +kernel)⟩
def lw_privs_1 : List (MethodName × Nat) := [(⟨"FloorGraph$Floor", "barredAmong", "(II)I"⟩, 14), (⟨"java/lang/Throwable", "fillInStackTrace", "(I)Ljava/lang/Throwable;"⟩, 6), (⟨"FloorGraph$Floor", "addPiece", "(IIZ)I"⟩, 14), (⟨"FloorGraph", "needPiece", "(I)V"⟩, 12), (⟨"FloorGraph", "joinEnds", "(III)I"⟩, 12), (⟨"FloorGraph$Floor", "addJoin", "(III)I"⟩, 14), (⟨"FloorGraph$Floor", "addPassage", "(III)V"⟩, 14), (⟨"FloorGraph$Floor", "setZone", "(IIZ)I"⟩, 14), (⟨"FloorGraph$Floor", "shutPieces", "()I"⟩, 14), (⟨"FloorGraph$Floor", "hasPieceFor", "(I)Z"⟩, 14), (⟨"FloorGraph", "needJourney", "(IIII)V"⟩, 12), (⟨"FloorGraph$Drive", "begin", "(LFloorGraph$Floor;II)V"⟩, 3), (⟨"FloorGraph$Floor", "mayEnter", "(III)Z"⟩, 14), (⟨"FloorGraph$Drive", "spread", "(LFloorGraph$Floor;I)V"⟩, 3), (⟨"FloorGraph$Floor", "mayLeave", "(I)Z"⟩, 14), (⟨"FloorGraph$Drive", "spreadOnce", "(LFloorGraph$Floor;)Z"⟩, 3)]
theorem lw_r1 : ∀ q ∈ lw_privs_1, lw_okq q := List.forall_mem_cons.mpr ⟨lw_p0, List.forall_mem_cons.mpr ⟨lw_p1, List.forall_mem_cons.mpr ⟨lw_p2, List.forall_mem_cons.mpr ⟨lw_p3, List.forall_mem_cons.mpr ⟨lw_p4, List.forall_mem_cons.mpr ⟨lw_p5, List.forall_mem_cons.mpr ⟨lw_p6, List.forall_mem_cons.mpr ⟨lw_p7, List.forall_mem_cons.mpr ⟨lw_p8, List.forall_mem_cons.mpr ⟨lw_p9, List.forall_mem_cons.mpr ⟨lw_p10, List.forall_mem_cons.mpr ⟨lw_p11, List.forall_mem_cons.mpr ⟨lw_p12, List.forall_mem_cons.mpr ⟨lw_p13, List.forall_mem_cons.mpr ⟨lw_p14, List.forall_mem_cons.mpr ⟨lw_p15, fun _ h => absurd h List.not_mem_nil⟩⟩⟩⟩⟩⟩⟩⟩⟩⟩⟩⟩⟩⟩⟩⟩
theorem lw_p16 : lw_okq (⟨"FloorGraph$Drive", "secondBehind", "(LFloorGraph$Floor;I)I"⟩, 3) := ⟨⟨by decide +kernel, by decide +kernel⟩, List.mem_of_getElem? (i := 92) (by decide +kernel), List.mem_of_getElem? (i := 400) (by decide +kernel), List.mem_of_getElem? (i := 401) (by decide +kernel)⟩
theorem lw_p17 : lw_okq (⟨"FloorGraph$Drive", "secondAt", "(LFloorGraph$Floor;I)I"⟩, 3) := ⟨⟨by decide +kernel, by decide +kernel⟩, List.mem_of_getElem? (i := 92) (by decide +kernel), List.mem_of_getElem? (i := 404) (by decide +kernel), List.mem_of_getElem? (i := 405) (by decide +kernel)⟩
theorem lw_p18 : lw_okq (⟨"FloorGraph$Drive", "trace", "(LFloorGraph$Floor;II[I)I"⟩, 3) := ⟨⟨by decide +kernel, by decide +kernel⟩, List.mem_of_getElem? (i := 92) (by decide +kernel), List.mem_of_getElem? (i := 408) (by decide +kernel), List.mem_of_getElem? (i := 409) (by decide +kernel)⟩
theorem lw_p19 : lw_okq (⟨"FloorGraph$Drive", "lastPassage", "(LFloorGraph$Floor;I)I"⟩, 3) := ⟨⟨by decide +kernel, by decide +kernel⟩, List.mem_of_getElem? (i := 92) (by decide +kernel), List.mem_of_getElem? (i := 412) (by decide +kernel), List.mem_of_getElem? (i := 413) (by decide +kernel)⟩
theorem lw_p20 : lw_okq (⟨"FloorGraph$Drive", "passageBefore", "(LFloorGraph$Floor;I)I"⟩, 3) := ⟨⟨by decide +kernel, by decide +kernel⟩, List.mem_of_getElem? (i := 92) (by decide +kernel), List.mem_of_getElem? (i := 416) (by decide +kernel), List.mem_of_getElem? (i := 417) (by decide +kernel)⟩
theorem lw_p21 : lw_okq (⟨"FloorGraph$Drive", "secondsTo", "(LFloorGraph$Floor;II)I"⟩, 3) := ⟨⟨by decide +kernel, by decide +kernel⟩, List.mem_of_getElem? (i := 92) (by decide +kernel), List.mem_of_getElem? (i := 420) (by decide +kernel), List.mem_of_getElem? (i := 421) (by decide +kernel)⟩
theorem lw_p22 : lw_okq (⟨"FloorGraph", "hasCharger", "(I)Z"⟩, 12) := ⟨⟨by decide +kernel, by decide +kernel⟩, List.mem_of_getElem? (i := 16) (by decide +kernel), List.mem_of_getElem? (i := 439) (by decide +kernel), List.mem_of_getElem? (i := 440) (by decide +kernel)⟩
theorem lw_p23 : lw_okq (⟨"FloorGraph", "workRow", "(I)V"⟩, 12) := ⟨⟨by decide +kernel, by decide +kernel⟩, List.mem_of_getElem? (i := 16) (by decide +kernel), List.mem_of_getElem? (i := 498) (by decide +kernel), List.mem_of_getElem? (i := 499) (by decide +kernel)⟩
theorem lw_p24 : lw_okq (⟨"FloorGraph$Drive", "waysBetween", "(LFloorGraph$Floor;III)I"⟩, 3) := ⟨⟨by decide +kernel, by decide +kernel⟩, List.mem_of_getElem? (i := 92) (by decide +kernel), List.mem_of_getElem? (i := 510) (by decide +kernel), List.mem_of_getElem? (i := 511) (by decide +kernel)⟩
theorem lw_p25 : lw_okq (⟨"FloorGraph$Drive", "waysOn", "(LFloorGraph$Floor;III)I"⟩, 3) := ⟨⟨by decide +kernel, by decide +kernel⟩, List.mem_of_getElem? (i := 92) (by decide +kernel), List.mem_of_getElem? (i := 514) (by decide +kernel), List.mem_of_getElem? (i := 515) (by decide +kernel)⟩
theorem lw_p26 : lw_okq (⟨"FloorGraphModel", "isPiece", "(I)Z"⟩, 24) := ⟨⟨by decide +kernel, by decide +kernel⟩, List.mem_of_getElem? (i := 518) (by decide +kernel), List.mem_of_getElem? (i := 612) (by decide +kernel), List.mem_of_getElem? (i := 613) (by decide +kernel)⟩
theorem lw_p27 : lw_okq (⟨"FloorGraphModel", "link", "(III)I"⟩, 24) := ⟨⟨by decide +kernel, by decide +kernel⟩, List.mem_of_getElem? (i := 518) (by decide +kernel), List.mem_of_getElem? (i := 616) (by decide +kernel), List.mem_of_getElem? (i := 617) (by decide +kernel)⟩
theorem lw_p28 : lw_okq (⟨"FloorGraphModel", "isDrive", "(IIII)Z"⟩, 24) := ⟨⟨by decide +kernel, by decide +kernel⟩, List.mem_of_getElem? (i := 518) (by decide +kernel), List.mem_of_getElem? (i := 654) (by decide +kernel), List.mem_of_getElem? (i := 655) (by decide +kernel)⟩
theorem lw_p29 : lw_okq (⟨"FloorGraphModel", "least", "(IIII)I"⟩, 24) := ⟨⟨by decide +kernel, by decide +kernel⟩, List.mem_of_getElem? (i := 518) (by decide +kernel), List.mem_of_getElem? (i := 658) (by decide +kernel), List.mem_of_getElem? (i := 659) (by decide +kernel)⟩
theorem lw_p30 : lw_okq (⟨"FloorGraphModel", "reachAll", "(III)V"⟩, 24) := ⟨⟨by decide +kernel, by decide +kernel⟩, List.mem_of_getElem? (i := 518) (by decide +kernel), List.mem_of_getElem? (i := 662) (by decide +kernel), List.mem_of_getElem? (i := 663) (by decide +kernel)⟩
theorem lw_p31 : lw_okq (⟨"FloorGraphModel", "lower", "(IIII)Z"⟩, 24) := ⟨⟨by decide +kernel, by decide +kernel⟩, List.mem_of_getElem? (i := 518) (by decide +kernel), List.mem_of_getElem? (i := 666) (by decide +kernel), List.mem_of_getElem? (i := 667) (by decide +kernel)⟩
def lw_privs_2 : List (MethodName × Nat) := [(⟨"FloorGraph$Drive", "secondBehind", "(LFloorGraph$Floor;I)I"⟩, 3), (⟨"FloorGraph$Drive", "secondAt", "(LFloorGraph$Floor;I)I"⟩, 3), (⟨"FloorGraph$Drive", "trace", "(LFloorGraph$Floor;II[I)I"⟩, 3), (⟨"FloorGraph$Drive", "lastPassage", "(LFloorGraph$Floor;I)I"⟩, 3), (⟨"FloorGraph$Drive", "passageBefore", "(LFloorGraph$Floor;I)I"⟩, 3), (⟨"FloorGraph$Drive", "secondsTo", "(LFloorGraph$Floor;II)I"⟩, 3), (⟨"FloorGraph", "hasCharger", "(I)Z"⟩, 12), (⟨"FloorGraph", "workRow", "(I)V"⟩, 12), (⟨"FloorGraph$Drive", "waysBetween", "(LFloorGraph$Floor;III)I"⟩, 3), (⟨"FloorGraph$Drive", "waysOn", "(LFloorGraph$Floor;III)I"⟩, 3), (⟨"FloorGraphModel", "isPiece", "(I)Z"⟩, 24), (⟨"FloorGraphModel", "link", "(III)I"⟩, 24), (⟨"FloorGraphModel", "isDrive", "(IIII)Z"⟩, 24), (⟨"FloorGraphModel", "least", "(IIII)I"⟩, 24), (⟨"FloorGraphModel", "reachAll", "(III)V"⟩, 24), (⟨"FloorGraphModel", "lower", "(IIII)Z"⟩, 24)]
theorem lw_r2 : ∀ q ∈ lw_privs_2, lw_okq q := List.forall_mem_cons.mpr ⟨lw_p16, List.forall_mem_cons.mpr ⟨lw_p17, List.forall_mem_cons.mpr ⟨lw_p18, List.forall_mem_cons.mpr ⟨lw_p19, List.forall_mem_cons.mpr ⟨lw_p20, List.forall_mem_cons.mpr ⟨lw_p21, List.forall_mem_cons.mpr ⟨lw_p22, List.forall_mem_cons.mpr ⟨lw_p23, List.forall_mem_cons.mpr ⟨lw_p24, List.forall_mem_cons.mpr ⟨lw_p25, List.forall_mem_cons.mpr ⟨lw_p26, List.forall_mem_cons.mpr ⟨lw_p27, List.forall_mem_cons.mpr ⟨lw_p28, List.forall_mem_cons.mpr ⟨lw_p29, List.forall_mem_cons.mpr ⟨lw_p30, List.forall_mem_cons.mpr ⟨lw_p31, fun _ h => absurd h List.not_mem_nil⟩⟩⟩⟩⟩⟩⟩⟩⟩⟩⟩⟩⟩⟩⟩⟩
theorem lw_p32 : lw_okq (⟨"FloorGraphModel", "through", "(IIII)I"⟩, 24) := ⟨⟨by decide +kernel, by decide +kernel⟩, List.mem_of_getElem? (i := 518) (by decide +kernel), List.mem_of_getElem? (i := 670) (by decide +kernel), List.mem_of_getElem? (i := 671) (by decide +kernel)⟩
theorem lw_p33 : lw_okq (⟨"FloorGraphModel", "from", "(II)I"⟩, 24) := ⟨⟨by decide +kernel, by decide +kernel⟩, List.mem_of_getElem? (i := 518) (by decide +kernel), List.mem_of_getElem? (i := 674) (by decide +kernel), List.mem_of_getElem? (i := 675) (by decide +kernel)⟩
theorem lw_p34 : lw_okq (⟨"FloorGraphModel", "mayGo", "(IIII)Z"⟩, 24) := ⟨⟨by decide +kernel, by decide +kernel⟩, List.mem_of_getElem? (i := 518) (by decide +kernel), List.mem_of_getElem? (i := 678) (by decide +kernel), List.mem_of_getElem? (i := 679) (by decide +kernel)⟩
theorem lw_p35 : lw_okq (⟨"FloorGraphModel", "to", "(II)I"⟩, 24) := ⟨⟨by decide +kernel, by decide +kernel⟩, List.mem_of_getElem? (i := 518) (by decide +kernel), List.mem_of_getElem? (i := 682) (by decide +kernel), List.mem_of_getElem? (i := 683) (by decide +kernel)⟩
theorem lw_p36 : lw_okq (⟨"FloorGraphModel", "mayEnter", "(III)Z"⟩, 24) := ⟨⟨by decide +kernel, by decide +kernel⟩, List.mem_of_getElem? (i := 518) (by decide +kernel), List.mem_of_getElem? (i := 686) (by decide +kernel), List.mem_of_getElem? (i := 687) (by decide +kernel)⟩
theorem lw_p37 : lw_okq (⟨"FloorGraphModel", "secondsTo", "(IIII)I"⟩, 24) := ⟨⟨by decide +kernel, by decide +kernel⟩, List.mem_of_getElem? (i := 518) (by decide +kernel), List.mem_of_getElem? (i := 690) (by decide +kernel), List.mem_of_getElem? (i := 691) (by decide +kernel)⟩
theorem lw_p38 : lw_okq (⟨"FloorGraphModel", "lastEnd", "(IIII)I"⟩, 24) := ⟨⟨by decide +kernel, by decide +kernel⟩, List.mem_of_getElem? (i := 518) (by decide +kernel), List.mem_of_getElem? (i := 694) (by decide +kernel), List.mem_of_getElem? (i := 695) (by decide +kernel)⟩
theorem lw_p39 : lw_okq (⟨"FloorGraphModel", "before", "(III)I"⟩, 24) := ⟨⟨by decide +kernel, by decide +kernel⟩, List.mem_of_getElem? (i := 518) (by decide +kernel), List.mem_of_getElem? (i := 698) (by decide +kernel), List.mem_of_getElem? (i := 699) (by decide +kernel)⟩
theorem lw_p40 : lw_okq (⟨"FloorGraphModel", "maySet", "(IIIII)Z"⟩, 24) := ⟨⟨by decide +kernel, by decide +kernel⟩, List.mem_of_getElem? (i := 518) (by decide +kernel), List.mem_of_getElem? (i := 730) (by decide +kernel), List.mem_of_getElem? (i := 731) (by decide +kernel)⟩
def lw_privs_3 : List (MethodName × Nat) := [(⟨"FloorGraphModel", "through", "(IIII)I"⟩, 24), (⟨"FloorGraphModel", "from", "(II)I"⟩, 24), (⟨"FloorGraphModel", "mayGo", "(IIII)Z"⟩, 24), (⟨"FloorGraphModel", "to", "(II)I"⟩, 24), (⟨"FloorGraphModel", "mayEnter", "(III)Z"⟩, 24), (⟨"FloorGraphModel", "secondsTo", "(IIII)I"⟩, 24), (⟨"FloorGraphModel", "lastEnd", "(IIII)I"⟩, 24), (⟨"FloorGraphModel", "before", "(III)I"⟩, 24), (⟨"FloorGraphModel", "maySet", "(IIIII)Z"⟩, 24)]
theorem lw_r3 : ∀ q ∈ lw_privs_3, lw_okq q := List.forall_mem_cons.mpr ⟨lw_p32, List.forall_mem_cons.mpr ⟨lw_p33, List.forall_mem_cons.mpr ⟨lw_p34, List.forall_mem_cons.mpr ⟨lw_p35, List.forall_mem_cons.mpr ⟨lw_p36, List.forall_mem_cons.mpr ⟨lw_p37, List.forall_mem_cons.mpr ⟨lw_p38, List.forall_mem_cons.mpr ⟨lw_p39, List.forall_mem_cons.mpr ⟨lw_p40, fun _ h => absurd h List.not_mem_nil⟩⟩⟩⟩⟩⟩⟩⟩⟩
def lw_privs : List (MethodName × Nat) := lw_privs_1 ++ (lw_privs_2 ++ (lw_privs_3))
def lw_tbl : List Cond := k2_sels lw_privs ++ tables_1
theorem lw_privs_ok : ∀ q ∈ lw_privs, lw_okq q := by
  show ∀ q ∈ lw_privs_1 ++ (lw_privs_2 ++ (lw_privs_3)), lw_okq q
  exact List.forall_mem_append.mpr ⟨lw_r1, List.forall_mem_append.mpr ⟨lw_r2, lw_r3⟩⟩
-- ===== end of PART A; then your names; then what follows =====
/-! ===== BEGIN words of one list among another's, by their places ===== -/
theorem goodIn_r {big : List Cond} (ws : List Cond) (ps : List Nat) (hp : ws = ps.filterMap (fun i => big[i]?)) (h : ws.all goodWord = true) : GoodIn big ws := by
  intro w hw
  have h1 := List.all_eq_true.mp h w hw
  rw [hp] at hw
  obtain ⟨i, -, hi⟩ := List.mem_filterMap.mp hw
  have hm : w ∈ big := by first | exact List.mem_of_getElem? hi | exact List.getElem?_mem hi
  exact ⟨hm, good_of_word h1⟩
theorem goodIn_app {big a b : List Cond} (ha : GoodIn big a) (hb : GoodIn big b) : GoodIn big (a ++ b) := fun w h => (List.mem_append.mp h).elim (ha w) (hb w)
theorem goodIn_ca {big a b : List Cond} {c : Cond} (ha : GoodIn big (c :: a)) (hb : GoodIn big b) : GoodIn big (c :: (a ++ b)) := fun w h => (List.mem_cons.mp h).elim (fun e => ha w (List.mem_cons.mpr (Or.inl e))) (fun h => (List.mem_append.mp h).elim (fun h => ha w (List.mem_cons.mpr (Or.inr h))) (hb w))
theorem goodIn_sub {big ws : List Cond} (hm : ∀ w ∈ ws, w ∈ big) (h : ws.all goodWord = true) : GoodIn big ws := fun w hw => ⟨hm w hw, good_of_word (List.all_eq_true.mp h w hw)⟩
/-! ===== END ===== -/

def vx_no (w : Cond) : Bool := decide (w ≠ .isRef (.static Bundle.tN "UNASSIGNED_STACK" Bundle.steD)) && decide (w ≠ .isRef (.static Bundle.tN "SUPPRESSED_SENTINEL" Bundle.listD)) && decide (w ≠ .laysStatic Bundle.tN "UNASSIGNED_STACK" Bundle.steD) && decide (w ≠ .laysStatic Bundle.tN "SUPPRESSED_SENTINEL" Bundle.listD)
def vx_at0 (own : String) (ic : Nat) (X : String) (names : List String) : List Cond := (Bundle.ownAtoms0 own ic X names).filter vx_no
def vx_atS (own : String) (ic : Nat) (X : String) (names : List String) : List Cond := (Bundle.ownAtoms own ic X names).filter vx_no
end
section
/-! ===== BEGIN printed: names, fields, word lists, decode rows ===== -/
def RX0 : String := "FloorGraph$Drive"
def TX0 : u_T := fun k => match k with
  | 0 => ("FloorGraph$Drive", "open", "[Z", true)
  | 1 => ("FloorGraph$Drive", "reached", "[I", true)
  | _ => ("FloorGraph$Drive", "met", "[Z", true)
def tyX0 : Nat → FieldType := fun k => match k with
  | 0 => .array .boolean
  | 1 => .array .int
  | _ => .array .boolean
abbrev wsX00 : List Cond := u_ws RX0 TX0 3
theorem nmX0 : ∀ a, a < 3 → ∀ b, b < 3 → a ≠ b → (TX0 a).2.1 ≠ (TX0 b).2.1 := by decide +kernel
theorem tyX0_ok : ∀ k, k < 3 → parseFieldDescriptor (TX0 k).2.2.1 = some (tyX0 k) := by decide +kernel
abbrev cX0_init : ByteArray := prog_2_method_1_code
def yX0_init : MethodName := ⟨RX0, "<init>", "()V"⟩
abbrev cX0_begin : ByteArray := prog_2_method_2_code
def yX0_begin : MethodName := ⟨RX0, "begin", "(LFloorGraph$Floor;II)V"⟩
abbrev cX0_spread : ByteArray := prog_2_method_3_code
def yX0_spread : MethodName := ⟨RX0, "spread", "(LFloorGraph$Floor;I)V"⟩
abbrev cX0_spreadOnce : ByteArray := prog_2_method_4_code
def yX0_spreadOnce : MethodName := ⟨RX0, "spreadOnce", "(LFloorGraph$Floor;)Z"⟩
abbrev cX0_secondAt : ByteArray := prog_2_method_5_code
def yX0_secondAt : MethodName := ⟨RX0, "secondAt", "(LFloorGraph$Floor;I)I"⟩
abbrev cX0_secondBehind : ByteArray := prog_2_method_6_code
def yX0_secondBehind : MethodName := ⟨RX0, "secondBehind", "(LFloorGraph$Floor;I)I"⟩
abbrev cX0_secondsTo : ByteArray := prog_2_method_7_code
def yX0_secondsTo : MethodName := ⟨RX0, "secondsTo", "(LFloorGraph$Floor;II)I"⟩
abbrev cX0_lastPassage : ByteArray := prog_2_method_8_code
def yX0_lastPassage : MethodName := ⟨RX0, "lastPassage", "(LFloorGraph$Floor;I)I"⟩
abbrev cX0_passageBefore : ByteArray := prog_2_method_9_code
def yX0_passageBefore : MethodName := ⟨RX0, "passageBefore", "(LFloorGraph$Floor;I)I"⟩
abbrev cX0_trace : ByteArray := prog_2_method_10_code
def yX0_trace : MethodName := ⟨RX0, "trace", "(LFloorGraph$Floor;II[I)I"⟩
abbrev cX0_waysBetween : ByteArray := prog_2_method_11_code
def yX0_waysBetween : MethodName := ⟨RX0, "waysBetween", "(LFloorGraph$Floor;III)I"⟩
abbrev cX0_waysOn : ByteArray := prog_2_method_12_code
def yX0_waysOn : MethodName := ⟨RX0, "waysOn", "(LFloorGraph$Floor;III)I"⟩
def RX1 : String := "FloorGraph$Floor"
def TX1 : u_T := fun k => match k with
  | 0 => ("FloorGraph$Floor", "pieces", "I", false)
  | 1 => ("FloorGraph$Floor", "levels", "[I", true)
  | 2 => ("FloorGraph$Floor", "lengths", "[I", true)
  | 3 => ("FloorGraph$Floor", "widths", "[I", true)
  | 4 => ("FloorGraph$Floor", "twoWay", "[Z", true)
  | 5 => ("FloorGraph$Floor", "shut", "[Z", true)
  | 6 => ("FloorGraph$Floor", "barredHours", "[I", true)
  | 7 => ("FloorGraph$Floor", "passages", "I", false)
  | 8 => ("FloorGraph$Floor", "starts", "[I", true)
  | 9 => ("FloorGraph$Floor", "goals", "[I", true)
  | 10 => ("FloorGraph$Floor", "turnSeconds", "[I", true)
  | 11 => ("FloorGraph$Floor", "barred", "[Z", true)
  | 12 => ("FloorGraph$Floor", "leaving", "[[I", true)
  | _ => ("FloorGraph$Floor", "leavings", "[I", true)
def tyX1 : Nat → FieldType := fun k => match k with
  | 0 => .int
  | 1 => .array .int
  | 2 => .array .int
  | 3 => .array .int
  | 4 => .array .boolean
  | 5 => .array .boolean
  | 6 => .array .int
  | 7 => .int
  | 8 => .array .int
  | 9 => .array .int
  | 10 => .array .int
  | 11 => .array .boolean
  | 12 => .array (.array .int)
  | _ => .array .int
abbrev wsX10 : List Cond := u_ws RX1 TX1 14
theorem nmX1 : ∀ a, a < 14 → ∀ b, b < 14 → a ≠ b → (TX1 a).2.1 ≠ (TX1 b).2.1 := by decide +kernel
theorem tyX1_ok : ∀ k, k < 14 → parseFieldDescriptor (TX1 k).2.2.1 = some (tyX1 k) := by decide +kernel
abbrev cX1_init : ByteArray := prog_3_method_1_code
def yX1_init : MethodName := ⟨RX1, "<init>", "()V"⟩
abbrev cX1_addPiece : ByteArray := prog_3_method_2_code
def yX1_addPiece : MethodName := ⟨RX1, "addPiece", "(IIZ)I"⟩
abbrev cX1_addJoin : ByteArray := prog_3_method_3_code
def yX1_addJoin : MethodName := ⟨RX1, "addJoin", "(III)I"⟩
abbrev cX1_addPassage : ByteArray := prog_3_method_4_code
def yX1_addPassage : MethodName := ⟨RX1, "addPassage", "(III)V"⟩
abbrev cX1_barredAmong : ByteArray := prog_3_method_5_code
def yX1_barredAmong : MethodName := ⟨RX1, "barredAmong", "(II)I"⟩
abbrev cX1_setZone : ByteArray := prog_3_method_6_code
def yX1_setZone : MethodName := ⟨RX1, "setZone", "(IIZ)I"⟩
abbrev cX1_shutPieces : ByteArray := prog_3_method_7_code
def yX1_shutPieces : MethodName := ⟨RX1, "shutPieces", "()I"⟩
abbrev cX1_hasPieceFor : ByteArray := prog_3_method_8_code
def yX1_hasPieceFor : MethodName := ⟨RX1, "hasPieceFor", "(I)Z"⟩
abbrev cX1_mayLeave : ByteArray := prog_3_method_9_code
def yX1_mayLeave : MethodName := ⟨RX1, "mayLeave", "(I)Z"⟩
abbrev cX1_mayEnter : ByteArray := prog_3_method_10_code
def yX1_mayEnter : MethodName := ⟨RX1, "mayEnter", "(III)Z"⟩
def RX2 : String := "FloorGraph"
def TX2 : u_T := fun k => match k with
  | 0 => ("FloorGraph", "floor", "LFloorGraph$Floor;", true)
  | 1 => ("FloorGraph", "drive", "LFloorGraph$Drive;", true)
  | 2 => ("FloorGraph", "robotWidths", "[I", true)
  | 3 => ("FloorGraph", "robots", "I", false)
  | 4 => ("FloorGraph", "chargerPieces", "[I", true)
  | 5 => ("FloorGraph", "chargers", "I", false)
  | 6 => ("FloorGraph", "wayBack", "[I", true)
  | 7 => ("FloorGraph", "waySize", "I", false)
  | 8 => ("FloorGraph", "tableRows", "[[I", true)
  | 9 => ("FloorGraph", "rowWorkedAt", "[I", true)
  | 10 => ("FloorGraph", "changes", "I", false)
  | _ => ("FloorGraph", "rowsWorked", "I", false)
def tyX2 : Nat → FieldType := fun k => match k with
  | 0 => .object "FloorGraph$Floor"
  | 1 => .object "FloorGraph$Drive"
  | 2 => .array .int
  | 3 => .int
  | 4 => .array .int
  | 5 => .int
  | 6 => .array .int
  | 7 => .int
  | 8 => .array (.array .int)
  | 9 => .array .int
  | 10 => .int
  | _ => .int
abbrev wsX20 : List Cond := u_ws RX2 TX2 12
theorem nmX2 : ∀ a, a < 12 → ∀ b, b < 12 → a ≠ b → (TX2 a).2.1 ≠ (TX2 b).2.1 := by decide +kernel
theorem tyX2_ok : ∀ k, k < 12 → parseFieldDescriptor (TX2 k).2.2.1 = some (tyX2 k) := by decide +kernel
abbrev cX2_init : ByteArray := prog_1_method_1_code
def yX2_init : MethodName := ⟨RX2, "<init>", "()V"⟩
abbrev cX2_piece : ByteArray := prog_1_method_2_code
def yX2_piece : MethodName := ⟨RX2, "piece", "(IIZ)I"⟩
abbrev cX2_join : ByteArray := prog_1_method_3_code
def yX2_join : MethodName := ⟨RX2, "join", "(IIIII)I"⟩
abbrev cX2_lift : ByteArray := prog_1_method_4_code
def yX2_lift : MethodName := ⟨RX2, "lift", "(III)I"⟩
abbrev cX2_turn : ByteArray := prog_1_method_5_code
def yX2_turn : MethodName := ⟨RX2, "turn", "(IIZ)I"⟩
abbrev cX2_width : ByteArray := prog_1_method_6_code
def yX2_width : MethodName := ⟨RX2, "width", "(II)V"⟩
abbrev cX2_zone : ByteArray := prog_1_method_7_code
def yX2_zone : MethodName := ⟨RX2, "zone", "(IIZ)I"⟩
abbrev cX2_closed : ByteArray := prog_1_method_8_code
def yX2_closed : MethodName := ⟨RX2, "closed", "(IZ)I"⟩
abbrev cX2_robot : ByteArray := prog_1_method_9_code
def yX2_robot : MethodName := ⟨RX2, "robot", "(I)I"⟩
abbrev cX2_way : ByteArray := prog_1_method_10_code
def yX2_way : MethodName := ⟨RX2, "way", "(IIII)I"⟩
abbrev cX2_step : ByteArray := prog_1_method_11_code
def yX2_step : MethodName := ⟨RX2, "step", "(I)I"⟩
abbrev cX2_same : ByteArray := prog_1_method_12_code
def yX2_same : MethodName := ⟨RX2, "same", "(IIII)Z"⟩
abbrev cX2_charger : ByteArray := prog_1_method_13_code
def yX2_charger : MethodName := ⟨RX2, "charger", "(I)I"⟩
abbrev cX2_nearest : ByteArray := prog_1_method_14_code
def yX2_nearest : MethodName := ⟨RX2, "nearest", "(III)I"⟩
abbrev cX2_table : ByteArray := prog_1_method_15_code
def yX2_table : MethodName := ⟨RX2, "table", "(II)I"⟩
abbrev cX2_rows : ByteArray := prog_1_method_16_code
def yX2_rows : MethodName := ⟨RX2, "rows", "()I"⟩
abbrev cX2_plain : ByteArray := prog_1_method_17_code
def yX2_plain : MethodName := ⟨RX2, "plain", "(IIIII)I"⟩
abbrev cX2_count : ByteArray := prog_1_method_18_code
def yX2_count : MethodName := ⟨RX2, "count", "(I)I"⟩
abbrev cX2_joinEnds : ByteArray := prog_1_method_19_code
def yX2_joinEnds : MethodName := ⟨RX2, "joinEnds", "(III)I"⟩
abbrev cX2_hasCharger : ByteArray := prog_1_method_20_code
def yX2_hasCharger : MethodName := ⟨RX2, "hasCharger", "(I)Z"⟩
abbrev cX2_workRow : ByteArray := prog_1_method_21_code
def yX2_workRow : MethodName := ⟨RX2, "workRow", "(I)V"⟩
abbrev cX2_needJourney : ByteArray := prog_1_method_22_code
def yX2_needJourney : MethodName := ⟨RX2, "needJourney", "(IIII)V"⟩
abbrev cX2_needPiece : ByteArray := prog_1_method_23_code
def yX2_needPiece : MethodName := ⟨RX2, "needPiece", "(I)V"⟩
abbrev cX2_needHour : ByteArray := prog_1_method_24_code
def yX2_needHour : MethodName := ⟨RX2, "needHour", "(I)V"⟩
abbrev cX2_needWidth : ByteArray := prog_1_method_25_code
def yX2_needWidth : MethodName := ⟨RX2, "needWidth", "(I)V"⟩
abbrev cX2_needZeroOrOne : ByteArray := prog_1_method_26_code
def yX2_needZeroOrOne : MethodName := ⟨RX2, "needZeroOrOne", "(I)V"⟩
def RX3 : String := "FloorGraphModel"
def TX3 : u_T := fun k => match k with
  | 0 => ("FloorGraphModel", "code", "I", false)
  | 1 => ("FloorGraphModel", "pieces", "I", false)
  | 2 => ("FloorGraphModel", "level", "[I", true)
  | 3 => ("FloorGraphModel", "length", "[I", true)
  | 4 => ("FloorGraphModel", "wide", "[I", true)
  | 5 => ("FloorGraphModel", "both", "[Z", true)
  | 6 => ("FloorGraphModel", "shut", "[Z", true)
  | 7 => ("FloorGraphModel", "zones", "[I", true)
  | 8 => ("FloorGraphModel", "joins", "I", false)
  | 9 => ("FloorGraphModel", "one", "[I", true)
  | 10 => ("FloorGraphModel", "two", "[I", true)
  | 11 => ("FloorGraphModel", "turning", "[I", true)
  | 12 => ("FloorGraphModel", "bars", "[I", true)
  | 13 => ("FloorGraphModel", "robots", "I", false)
  | 14 => ("FloorGraphModel", "robotWide", "[I", true)
  | 15 => ("FloorGraphModel", "chargers", "I", false)
  | 16 => ("FloorGraphModel", "chargerAt", "[I", true)
  | 17 => ("FloorGraphModel", "changes", "I", false)
  | 18 => ("FloorGraphModel", "workedAt", "[I", true)
  | 19 => ("FloorGraphModel", "worked", "I", false)
  | 20 => ("FloorGraphModel", "reached", "[I", true)
  | 21 => ("FloorGraphModel", "steps", "[I", true)
  | 22 => ("FloorGraphModel", "stepCount", "I", false)
  | _ => ("FloorGraphModel", "on", "[I", true)
def tyX3 : Nat → FieldType := fun k => match k with
  | 0 => .int
  | 1 => .int
  | 2 => .array .int
  | 3 => .array .int
  | 4 => .array .int
  | 5 => .array .boolean
  | 6 => .array .boolean
  | 7 => .array .int
  | 8 => .int
  | 9 => .array .int
  | 10 => .array .int
  | 11 => .array .int
  | 12 => .array .int
  | 13 => .int
  | 14 => .array .int
  | 15 => .int
  | 16 => .array .int
  | 17 => .int
  | 18 => .array .int
  | 19 => .int
  | 20 => .array .int
  | 21 => .array .int
  | 22 => .int
  | _ => .array .int
abbrev wsX30 : List Cond := u_ws RX3 TX3 24
theorem nmX3 : ∀ a, a < 24 → ∀ b, b < 24 → a ≠ b → (TX3 a).2.1 ≠ (TX3 b).2.1 := by decide +kernel
theorem tyX3_ok : ∀ k, k < 24 → parseFieldDescriptor (TX3 k).2.2.1 = some (tyX3 k) := by decide +kernel
abbrev cX3_init : ByteArray := prog_5_method_1_code
def yX3_init : MethodName := ⟨RX3, "<init>", "()V"⟩
abbrev cX3_thrown : ByteArray := prog_5_method_2_code
def yX3_thrown : MethodName := ⟨RX3, "thrown", "()I"⟩
abbrev cX3_in : ByteArray := prog_5_method_3_code
def yX3_in : MethodName := ⟨RX3, "in", "(III)Z"⟩
abbrev cX3_isPiece : ByteArray := prog_5_method_4_code
def yX3_isPiece : MethodName := ⟨RX3, "isPiece", "(I)Z"⟩
abbrev cX3_piece : ByteArray := prog_5_method_5_code
def yX3_piece : MethodName := ⟨RX3, "piece", "(IIZ)I"⟩
abbrev cX3_link : ByteArray := prog_5_method_6_code
def yX3_link : MethodName := ⟨RX3, "link", "(III)I"⟩
abbrev cX3_join : ByteArray := prog_5_method_7_code
def yX3_join : MethodName := ⟨RX3, "join", "(IIIII)I"⟩
abbrev cX3_lift : ByteArray := prog_5_method_8_code
def yX3_lift : MethodName := ⟨RX3, "lift", "(III)I"⟩
abbrev cX3_bits : ByteArray := prog_5_method_9_code
def yX3_bits : MethodName := ⟨RX3, "bits", "(I)I"⟩
abbrev cX3_with : ByteArray := prog_5_method_10_code
def yX3_with : MethodName := ⟨RX3, "with", "(IIZ)I"⟩
abbrev cX3_turn : ByteArray := prog_5_method_11_code
def yX3_turn : MethodName := ⟨RX3, "turn", "(IIZ)I"⟩
abbrev cX3_width : ByteArray := prog_5_method_12_code
def yX3_width : MethodName := ⟨RX3, "width", "(II)V"⟩
abbrev cX3_zone : ByteArray := prog_5_method_13_code
def yX3_zone : MethodName := ⟨RX3, "zone", "(IIZ)I"⟩
abbrev cX3_closed : ByteArray := prog_5_method_14_code
def yX3_closed : MethodName := ⟨RX3, "closed", "(IZ)I"⟩
abbrev cX3_robot : ByteArray := prog_5_method_15_code
def yX3_robot : MethodName := ⟨RX3, "robot", "(I)I"⟩
abbrev cX3_mayEnter : ByteArray := prog_5_method_16_code
def yX3_mayEnter : MethodName := ⟨RX3, "mayEnter", "(III)Z"⟩
abbrev cX3_from : ByteArray := prog_5_method_17_code
def yX3_from : MethodName := ⟨RX3, "from", "(II)I"⟩
abbrev cX3_to : ByteArray := prog_5_method_18_code
def yX3_to : MethodName := ⟨RX3, "to", "(II)I"⟩
abbrev cX3_mayGo : ByteArray := prog_5_method_19_code
def yX3_mayGo : MethodName := ⟨RX3, "mayGo", "(IIII)Z"⟩
abbrev cX3_reachAll : ByteArray := prog_5_method_20_code
def yX3_reachAll : MethodName := ⟨RX3, "reachAll", "(III)V"⟩
abbrev cX3_through : ByteArray := prog_5_method_21_code
def yX3_through : MethodName := ⟨RX3, "through", "(IIII)I"⟩
abbrev cX3_lower : ByteArray := prog_5_method_22_code
def yX3_lower : MethodName := ⟨RX3, "lower", "(IIII)Z"⟩
abbrev cX3_secondsTo : ByteArray := prog_5_method_23_code
def yX3_secondsTo : MethodName := ⟨RX3, "secondsTo", "(IIII)I"⟩
abbrev cX3_lastEnd : ByteArray := prog_5_method_24_code
def yX3_lastEnd : MethodName := ⟨RX3, "lastEnd", "(IIII)I"⟩
abbrev cX3_before : ByteArray := prog_5_method_25_code
def yX3_before : MethodName := ⟨RX3, "before", "(III)I"⟩
abbrev cX3_isDrive : ByteArray := prog_5_method_26_code
def yX3_isDrive : MethodName := ⟨RX3, "isDrive", "(IIII)Z"⟩
abbrev cX3_least : ByteArray := prog_5_method_27_code
def yX3_least : MethodName := ⟨RX3, "least", "(IIII)I"⟩
abbrev cX3_way : ByteArray := prog_5_method_28_code
def yX3_way : MethodName := ⟨RX3, "way", "(IIII)I"⟩
abbrev cX3_step : ByteArray := prog_5_method_29_code
def yX3_step : MethodName := ⟨RX3, "step", "(I)I"⟩
abbrev cX3_same : ByteArray := prog_5_method_30_code
def yX3_same : MethodName := ⟨RX3, "same", "(IIII)Z"⟩
abbrev cX3_charger : ByteArray := prog_5_method_31_code
def yX3_charger : MethodName := ⟨RX3, "charger", "(I)I"⟩
abbrev cX3_nearest : ByteArray := prog_5_method_32_code
def yX3_nearest : MethodName := ⟨RX3, "nearest", "(III)I"⟩
abbrev cX3_table : ByteArray := prog_5_method_33_code
def yX3_table : MethodName := ⟨RX3, "table", "(II)I"⟩
abbrev cX3_rows : ByteArray := prog_5_method_34_code
def yX3_rows : MethodName := ⟨RX3, "rows", "()I"⟩
abbrev cX3_maySet : ByteArray := prog_5_method_35_code
def yX3_maySet : MethodName := ⟨RX3, "maySet", "(IIIII)Z"⟩
abbrev cX3_plain : ByteArray := prog_5_method_36_code
def yX3_plain : MethodName := ⟨RX3, "plain", "(IIIII)I"⟩
abbrev cX3_count : ByteArray := prog_5_method_37_code
def yX3_count : MethodName := ⟨RX3, "count", "(I)I"⟩
def RJx00060 : String := "java/lang/ArrayIndexOutOfBoundsException"
def TJx00060 : u_T := fun k => match k with
  | 0 => ("java/lang/Throwable", "cause", "Ljava/lang/Throwable;", false)
  | 1 => ("java/lang/Throwable", "stackTrace", "[Ljava/lang/StackTraceElement;", false)
  | 2 => ("java/lang/Throwable", "suppressedExceptions", "Ljava/util/List;", false)
  | 3 => ("java/lang/Throwable", "detailMessage", "Ljava/lang/String;", false)
  | 4 => ("java/lang/Throwable", "backtrace", "Ljava/lang/Object;", false)
  | _ => ("java/lang/Throwable", "depth", "I", false)
def tyJx00060 : Nat → FieldType := fun k => match k with
  | 0 => .object "java/lang/Throwable"
  | 1 => .array (.object "java/lang/StackTraceElement")
  | 2 => .object "java/util/List"
  | 3 => .object "java/lang/String"
  | 4 => .object "java/lang/Object"
  | _ => .int
abbrev wsJx000600 : List Cond := u_ws RJx00060 TJx00060 6
theorem nmJx00060 : ∀ a, a < 6 → ∀ b, b < 6 → a ≠ b → (TJx00060 a).2.1 ≠ (TJx00060 b).2.1 := by decide +kernel
theorem tyJx00060_ok : ∀ k, k < 6 → parseFieldDescriptor (TJx00060 k).2.2.1 = some (tyJx00060 k) := by decide +kernel
abbrev cJx00060_init_a7421 : ByteArray := prog_6_method_2_code
def yJx00060_init_a7421 : MethodName := ⟨RJx00060, "<init>", "(Ljava/lang/String;)V"⟩
def RJ6 : String := "java/lang/Integer"
def TJ6 : u_T := fun k => match k with
  | _ => ("", "", "", false)
def tyJ6 : Nat → FieldType := fun k => match k with
  | _ => .int
abbrev wsJ60 : List Cond := u_ws RJ6 TJ6 0
theorem nmJ6 : ∀ a, a < 0 → ∀ b, b < 0 → a ≠ b → (TJ6 a).2.1 ≠ (TJ6 b).2.1 := by decide +kernel
theorem tyJ6_ok : ∀ k, k < 0 → parseFieldDescriptor (TJ6 k).2.2.1 = some (tyJ6 k) := by decide +kernel
abbrev cJ6_bitCount_0f7a4 : ByteArray := prog_11_method_49_code
def yJ6_bitCount_0f7a4 : MethodName := ⟨RJ6, "bitCount", "(I)I"⟩
def RJ0 : String := "java/lang/String"
def TJ0 : u_T := fun k => match k with
  | _ => ("", "", "", false)
def tyJ0 : Nat → FieldType := fun k => match k with
  | _ => .int
abbrev wsJ00 : List Cond := u_ws RJ0 TJ0 0
theorem nmJ0 : ∀ a, a < 0 → ∀ b, b < 0 → a ≠ b → (TJ0 a).2.1 ≠ (TJ0 b).2.1 := by decide +kernel
theorem tyJ0_ok : ∀ k, k < 0 → parseFieldDescriptor (TJ0 k).2.2.1 = some (tyJ0 k) := by decide +kernel
def RJ7 : String := "java/util/Arrays"
def TJ7 : u_T := fun k => match k with
  | _ => ("", "", "", false)
def tyJ7 : Nat → FieldType := fun k => match k with
  | _ => .int
abbrev wsJ70 : List Cond := u_ws RJ7 TJ7 0
theorem nmJ7 : ∀ a, a < 0 → ∀ b, b < 0 → a ≠ b → (TJ7 a).2.1 ≠ (TJ7 b).2.1 := by decide +kernel
theorem tyJ7_ok : ∀ k, k < 0 → parseFieldDescriptor (TJ7 k).2.2.1 = some (tyJ7 k) := by decide +kernel
abbrev cJ7_fill_53178 : ByteArray := prog_16_method_103_code
def yJ7_fill_53178 : MethodName := ⟨RJ7, "fill", "([II)V"⟩
def RL : String := "FloorGraphLaw"
abbrev cL_piece : ByteArray := method_3_code
def yL_piece : MethodName := ⟨RL, "piece", "(LFloorGraph;IIZ[J)I"⟩
abbrev cL_join : ByteArray := method_4_code
def yL_join : MethodName := ⟨RL, "join", "(LFloorGraph;IIIII[J)I"⟩
abbrev cL_lift : ByteArray := method_5_code
def yL_lift : MethodName := ⟨RL, "lift", "(LFloorGraph;III[J)I"⟩
abbrev cL_turn : ByteArray := method_6_code
def yL_turn : MethodName := ⟨RL, "turn", "(LFloorGraph;IIZ[J)I"⟩
abbrev cL_width : ByteArray := method_7_code
def yL_width : MethodName := ⟨RL, "width", "(LFloorGraph;II)I"⟩
abbrev cL_zone : ByteArray := method_8_code
def yL_zone : MethodName := ⟨RL, "zone", "(LFloorGraph;IIZ[J)I"⟩
abbrev cL_closed : ByteArray := method_9_code
def yL_closed : MethodName := ⟨RL, "closed", "(LFloorGraph;IZ[J)I"⟩
abbrev cL_robot : ByteArray := method_10_code
def yL_robot : MethodName := ⟨RL, "robot", "(LFloorGraph;I[J)I"⟩
abbrev cL_way : ByteArray := method_11_code
def yL_way : MethodName := ⟨RL, "way", "(LFloorGraph;IIII[J)I"⟩
abbrev cL_same : ByteArray := method_12_code
def yL_same : MethodName := ⟨RL, "same", "(LFloorGraph;IIII[J)I"⟩
abbrev cL_charger : ByteArray := method_13_code
def yL_charger : MethodName := ⟨RL, "charger", "(LFloorGraph;I[J)I"⟩
abbrev cL_nearest : ByteArray := method_14_code
def yL_nearest : MethodName := ⟨RL, "nearest", "(LFloorGraph;III[J)I"⟩
abbrev cL_table : ByteArray := method_15_code
def yL_table : MethodName := ⟨RL, "table", "(LFloorGraph;II[J)I"⟩
abbrev cL_plain : ByteArray := method_16_code
def yL_plain : MethodName := ⟨RL, "plain", "(LFloorGraph;IIIII[J)I"⟩
abbrev cL_law : ByteArray := code
def yL_law : MethodName := ⟨RL, "law", "([I)Z"⟩
def wsX0_init : List Cond := .code yX0_init cX0_init 1 none :: ([.methodLink RX0 3 objectInit, .instanceMethod objectInit, .code objectInit ⟨#[0xb1]⟩ 1 none, .arrayClass .boolean, .fieldLink RX0 9 "FloorGraph$Drive" "open" "[Z", .arrayClass .int, .fieldLink RX0 15 "FloorGraph$Drive" "reached" "[I", .fieldLink RX0 19 "FloorGraph$Drive" "met" "[Z"] ++ wsX00)
def wsX1_mayEnter : List Cond := .code yX1_mayEnter cX1_mayEnter 5 (some .boolean) :: ([.fieldLink RX1 25 "FloorGraph$Floor" "shut" "[Z", .fieldLink RX1 28 "FloorGraph$Floor" "barredHours" "[I", .fieldLink RX1 18 "FloorGraph$Floor" "widths" "[I", .fieldLink RX1 21 "FloorGraph$Floor" "twoWay" "[Z"] ++ wsX10)
def wsX0_begin : List Cond := .code yX0_begin cX0_begin 5 none :: ([.fieldLink RX0 9 "FloorGraph$Drive" "open" "[Z", .instanceMethod yX1_mayEnter, .initialized RX1, .selects RX1 yX1_mayEnter yX1_mayEnter, .code yX1_mayEnter cX1_mayEnter 5 (some .boolean), .fieldLink RX1 25 "FloorGraph$Floor" "shut" "[Z", .fieldLink RX1 28 "FloorGraph$Floor" "barredHours" "[I", .fieldLink RX1 18 "FloorGraph$Floor" "widths" "[I", .fieldLink RX1 21 "FloorGraph$Floor" "twoWay" "[Z"] ++ wsX10 ++ wsX00)
def wsJ7_fill_53178 : List Cond := .code yJ7_fill_53178 cJ7_fill_53178 4 none :: ([])
def wsX1_mayLeave : List Cond := .code yX1_mayLeave cX1_mayLeave 2 (some .boolean) :: ([.fieldLink RX1 21 "FloorGraph$Floor" "twoWay" "[Z"] ++ wsX10)
def wsX0_secondAt : List Cond := .code yX0_secondAt cX0_secondAt 4 (some .int) :: ([.fieldLink RX0 15 "FloorGraph$Drive" "reached" "[I", .fieldLink RX0 9 "FloorGraph$Drive" "open" "[Z", .constant RX0 38 (1000000)] ++ wsX00 ++ wsX10)
def wsX0_secondBehind : List Cond := .code yX0_secondBehind cX0_secondBehind 4 (some .int) :: ([.constant RX0 38 (1000000), .methodLink RX0 63 yX0_secondAt, .instanceMethod yX0_secondAt, .selects RX0 yX0_secondAt yX0_secondAt, .initialized RX0, .code yX0_secondAt cX0_secondAt 4 (some .int), .fieldLink RX0 15 "FloorGraph$Drive" "reached" "[I", .fieldLink RX0 9 "FloorGraph$Drive" "open" "[Z"] ++ wsX10 ++ wsX00)
def wsX0_spreadOnce : List Cond := .code yX0_spreadOnce cX0_spreadOnce 6 (some .boolean) :: ([.fieldLink RX0 15 "FloorGraph$Drive" "reached" "[I", .methodLink RX0 53 yX0_secondBehind, .instanceMethod yX0_secondBehind, .selects RX0 yX0_secondBehind yX0_secondBehind, .initialized RX0, .code yX0_secondBehind cX0_secondBehind 4 (some .int), .constant RX0 38 (1000000), .methodLink RX0 63 yX0_secondAt, .instanceMethod yX0_secondAt, .selects RX0 yX0_secondAt yX0_secondAt, .code yX0_secondAt cX0_secondAt 4 (some .int), .fieldLink RX0 9 "FloorGraph$Drive" "open" "[Z"] ++ wsX10 ++ wsX00)
def wsX0_spread_r1 : List Cond := [Cond.fieldLink RX0 15 "FloorGraph$Drive" "reached" "[I", Cond.constant RX0 38 (1000000), Cond.methodLink RX0 39 yJ7_fill_53178, Cond.static yJ7_fill_53178, Cond.initialized RJ7, Cond.code yJ7_fill_53178 cJ7_fill_53178 4 none, Cond.instanceMethod yX1_mayLeave, Cond.initialized RX1, Cond.selects RX1 yX1_mayLeave yX1_mayLeave, Cond.code yX1_mayLeave cX1_mayLeave 2 (some .boolean), Cond.fieldLink RX1 21 "FloorGraph$Floor" "twoWay" "[Z", Cond.methodLink RX0 49 yX0_spreadOnce, Cond.instanceMethod yX0_spreadOnce, Cond.selects RX0 yX0_spreadOnce yX0_spreadOnce, Cond.initialized RX0, Cond.code yX0_spreadOnce cX0_spreadOnce 6 (some .boolean), Cond.methodLink RX0 53 yX0_secondBehind, Cond.instanceMethod yX0_secondBehind, Cond.selects RX0 yX0_secondBehind yX0_secondBehind, Cond.code yX0_secondBehind cX0_secondBehind 4 (some .int), Cond.methodLink RX0 63 yX0_secondAt, Cond.instanceMethod yX0_secondAt, Cond.selects RX0 yX0_secondAt yX0_secondAt, Cond.code yX0_secondAt cX0_secondAt 4 (some .int)]
def wsX0_spread_r2 : List Cond := [Cond.fieldLink RX0 9 "FloorGraph$Drive" "open" "[Z"]
def wsX0_spread : List Cond := .code yX0_spread cX0_spread 5 none :: ((wsX0_spread_r1 ++ wsX0_spread_r2) ++ wsX00 ++ wsX10)
def wsX0_lastPassage : List Cond := .code yX0_lastPassage cX0_lastPassage 7 (some .int) :: ([.constant RX0 38 (1000000), .methodLink RX0 63 yX0_secondAt, .instanceMethod yX0_secondAt, .selects RX0 yX0_secondAt yX0_secondAt, .initialized RX0, .code yX0_secondAt cX0_secondAt 4 (some .int), .fieldLink RX0 15 "FloorGraph$Drive" "reached" "[I", .fieldLink RX0 9 "FloorGraph$Drive" "open" "[Z"] ++ wsX10 ++ wsX00)
def wsX0_secondsTo : List Cond := .code yX0_secondsTo cX0_secondsTo 5 (some .int) :: ([.methodLink RX0 69 yX0_lastPassage, .instanceMethod yX0_lastPassage, .selects RX0 yX0_lastPassage yX0_lastPassage, .initialized RX0, .code yX0_lastPassage cX0_lastPassage 7 (some .int), .constant RX0 38 (1000000), .methodLink RX0 63 yX0_secondAt, .instanceMethod yX0_secondAt, .selects RX0 yX0_secondAt yX0_secondAt, .code yX0_secondAt cX0_secondAt 4 (some .int), .fieldLink RX0 15 "FloorGraph$Drive" "reached" "[I", .fieldLink RX0 9 "FloorGraph$Drive" "open" "[Z"] ++ wsX10 ++ wsX00)
def wsX0_passageBefore : List Cond := .code yX0_passageBefore cX0_passageBefore 4 (some .int) :: ([.fieldLink RX0 15 "FloorGraph$Drive" "reached" "[I", .methodLink RX0 53 yX0_secondBehind, .instanceMethod yX0_secondBehind, .selects RX0 yX0_secondBehind yX0_secondBehind, .initialized RX0, .code yX0_secondBehind cX0_secondBehind 4 (some .int), .constant RX0 38 (1000000), .methodLink RX0 63 yX0_secondAt, .instanceMethod yX0_secondAt, .selects RX0 yX0_secondAt yX0_secondAt, .code yX0_secondAt cX0_secondAt 4 (some .int), .fieldLink RX0 9 "FloorGraph$Drive" "open" "[Z"] ++ wsX00 ++ wsX10)
def wsX0_trace : List Cond := .code yX0_trace cX0_trace 8 (some .int) :: ([.methodLink RX0 69 yX0_lastPassage, .instanceMethod yX0_lastPassage, .selects RX0 yX0_lastPassage yX0_lastPassage, .initialized RX0, .code yX0_lastPassage cX0_lastPassage 7 (some .int), .constant RX0 38 (1000000), .methodLink RX0 63 yX0_secondAt, .instanceMethod yX0_secondAt, .selects RX0 yX0_secondAt yX0_secondAt, .code yX0_secondAt cX0_secondAt 4 (some .int), .fieldLink RX0 15 "FloorGraph$Drive" "reached" "[I", .fieldLink RX0 9 "FloorGraph$Drive" "open" "[Z", .methodLink RX0 72 yX0_passageBefore, .instanceMethod yX0_passageBefore, .selects RX0 yX0_passageBefore yX0_passageBefore, .code yX0_passageBefore cX0_passageBefore 4 (some .int), .methodLink RX0 53 yX0_secondBehind, .instanceMethod yX0_secondBehind, .selects RX0 yX0_secondBehind yX0_secondBehind, .code yX0_secondBehind cX0_secondBehind 4 (some .int)] ++ wsX10 ++ wsX00)
def wsX0_waysOn : List Cond := .code yX0_waysOn cX0_waysOn 10 (some .int) :: ([.fieldLink RX0 9 "FloorGraph$Drive" "open" "[Z", .fieldLink RX0 19 "FloorGraph$Drive" "met" "[Z", .methodLink RX0 78 yX0_waysOn, .instanceMethod yX0_waysOn, .selects RX0 yX0_waysOn yX0_waysOn, .initialized RX0] ++ wsX10 ++ wsX00)
def wsX0_waysBetween : List Cond := .code yX0_waysBetween cX0_waysBetween 7 (some .int) :: ([.fieldLink RX0 19 "FloorGraph$Drive" "met" "[Z", .instanceMethod yX1_mayLeave, .initialized RX1, .selects RX1 yX1_mayLeave yX1_mayLeave, .code yX1_mayLeave cX1_mayLeave 2 (some .boolean), .fieldLink RX1 21 "FloorGraph$Floor" "twoWay" "[Z", .methodLink RX0 78 yX0_waysOn, .instanceMethod yX0_waysOn, .selects RX0 yX0_waysOn yX0_waysOn, .initialized RX0, .code yX0_waysOn cX0_waysOn 10 (some .int), .fieldLink RX0 9 "FloorGraph$Drive" "open" "[Z"] ++ wsX10 ++ wsX00)
def wsX1_init : List Cond := .code yX1_init cX1_init 1 none :: ([.methodLink RX1 3 objectInit, .instanceMethod objectInit, .code objectInit ⟨#[0xb1]⟩ 1 none, .arrayClass .int, .fieldLink RX1 9 "FloorGraph$Floor" "levels" "[I", .fieldLink RX1 15 "FloorGraph$Floor" "lengths" "[I", .fieldLink RX1 18 "FloorGraph$Floor" "widths" "[I", .arrayClass .boolean, .fieldLink RX1 21 "FloorGraph$Floor" "twoWay" "[Z", .fieldLink RX1 25 "FloorGraph$Floor" "shut" "[Z", .fieldLink RX1 28 "FloorGraph$Floor" "barredHours" "[I", .fieldLink RX1 31 "FloorGraph$Floor" "starts" "[I", .fieldLink RX1 34 "FloorGraph$Floor" "goals" "[I", .fieldLink RX1 37 "FloorGraph$Floor" "turnSeconds" "[I", .fieldLink RX1 40 "FloorGraph$Floor" "barred" "[Z", .classLink RX1 43 "[[I", .fieldLink RX1 45 "FloorGraph$Floor" "leaving" "[[I", .fieldLink RX1 48 "FloorGraph$Floor" "leavings" "[I"] ++ wsX10)
def wsX1_addPiece : List Cond := .code yX1_addPiece cX1_addPiece 5 (some .int) :: ([.fieldLink RX1 51 "FloorGraph$Floor" "pieces" "I", .fieldLink RX1 9 "FloorGraph$Floor" "levels" "[I", .fieldLink RX1 15 "FloorGraph$Floor" "lengths" "[I", .fieldLink RX1 18 "FloorGraph$Floor" "widths" "[I", .fieldLink RX1 21 "FloorGraph$Floor" "twoWay" "[Z"] ++ wsX10)
def wsX1_addPassage : List Cond := .code yX1_addPassage cX1_addPassage 4 none :: ([.fieldLink RX1 31 "FloorGraph$Floor" "starts" "[I", .fieldLink RX1 59 "FloorGraph$Floor" "passages" "I", .fieldLink RX1 34 "FloorGraph$Floor" "goals" "[I", .fieldLink RX1 37 "FloorGraph$Floor" "turnSeconds" "[I", .fieldLink RX1 45 "FloorGraph$Floor" "leaving" "[[I", .fieldLink RX1 48 "FloorGraph$Floor" "leavings" "[I"] ++ wsX10)
def wsX1_addJoin : List Cond := .code yX1_addJoin cX1_addJoin 4 (some .int) :: ([.fieldLink RX1 59 "FloorGraph$Floor" "passages" "I", .methodLink RX1 55 yX1_addPassage, .instanceMethod yX1_addPassage, .selects RX1 yX1_addPassage yX1_addPassage, .initialized RX1, .code yX1_addPassage cX1_addPassage 4 none, .fieldLink RX1 31 "FloorGraph$Floor" "starts" "[I", .fieldLink RX1 34 "FloorGraph$Floor" "goals" "[I", .fieldLink RX1 37 "FloorGraph$Floor" "turnSeconds" "[I", .fieldLink RX1 45 "FloorGraph$Floor" "leaving" "[[I", .fieldLink RX1 48 "FloorGraph$Floor" "leavings" "[I"] ++ wsX10)
def wsX1_barredAmong : List Cond := .code yX1_barredAmong cX1_barredAmong 5 (some .int) :: ([.fieldLink RX1 40 "FloorGraph$Floor" "barred" "[Z"] ++ wsX10)
def wsJ6_bitCount_0f7a4 : List Cond := .code yJ6_bitCount_0f7a4 cJ6_bitCount_0f7a4 1 (some .int) :: ([.constant RJ6 265 (1431655765), .constant RJ6 266 (858993459), .constant RJ6 267 (252645135)])
def wsX1_setZone : List Cond := .code yX1_setZone cX1_setZone 5 (some .int) :: ([.fieldLink RX1 28 "FloorGraph$Floor" "barredHours" "[I", .methodLink RX1 62 yJ6_bitCount_0f7a4, .static yJ6_bitCount_0f7a4, .initialized RJ6, .code yJ6_bitCount_0f7a4 cJ6_bitCount_0f7a4 1 (some .int), .constant RJ6 265 (1431655765), .constant RJ6 266 (858993459), .constant RJ6 267 (252645135)] ++ wsX10)
def wsX1_shutPieces : List Cond := .code yX1_shutPieces cX1_shutPieces 3 (some .int) :: ([.fieldLink RX1 51 "FloorGraph$Floor" "pieces" "I", .fieldLink RX1 25 "FloorGraph$Floor" "shut" "[Z"] ++ wsX10)
def wsX1_hasPieceFor : List Cond := .code yX1_hasPieceFor cX1_hasPieceFor 3 (some .boolean) :: ([.fieldLink RX1 51 "FloorGraph$Floor" "pieces" "I", .fieldLink RX1 18 "FloorGraph$Floor" "widths" "[I"] ++ wsX10)
def wsX2_init_r1 : List Cond := [Cond.methodLink RX2 3 objectInit, Cond.instanceMethod objectInit, Cond.code objectInit ⟨#[0xb1]⟩ 1 none, Cond.classLink RX2 9 RX1, Cond.instantiable RX1 14, Cond.initialized RX1, Cond.fieldLink RX2 12 "FloorGraph" "floor" "LFloorGraph$Floor;", Cond.classLink RX2 16 RX0, Cond.instantiable RX0 3, Cond.initialized RX0, Cond.fieldLink RX2 19 "FloorGraph" "drive" "LFloorGraph$Drive;", Cond.arrayClass .int, Cond.fieldLink RX2 23 "FloorGraph" "robotWidths" "[I", Cond.fieldLink RX2 27 "FloorGraph" "chargerPieces" "[I", Cond.fieldLink RX2 30 "FloorGraph" "wayBack" "[I", Cond.classLink RX2 33 "[[I", Cond.fieldLink RX2 35 "FloorGraph" "tableRows" "[[I", Cond.fieldLink RX2 38 "FloorGraph" "rowWorkedAt" "[I", Cond.instanceMethod yX1_init, Cond.code yX1_init cX1_init 1 none, Cond.methodLink RX1 3 objectInit, Cond.fieldLink RX1 9 "FloorGraph$Floor" "levels" "[I", Cond.fieldLink RX1 15 "FloorGraph$Floor" "lengths" "[I", Cond.fieldLink RX1 18 "FloorGraph$Floor" "widths" "[I"]
def wsX2_init_r2 : List Cond := [Cond.arrayClass .boolean, Cond.fieldLink RX1 21 "FloorGraph$Floor" "twoWay" "[Z", Cond.fieldLink RX1 25 "FloorGraph$Floor" "shut" "[Z", Cond.fieldLink RX1 28 "FloorGraph$Floor" "barredHours" "[I", Cond.fieldLink RX1 31 "FloorGraph$Floor" "starts" "[I", Cond.fieldLink RX1 34 "FloorGraph$Floor" "goals" "[I", Cond.fieldLink RX1 37 "FloorGraph$Floor" "turnSeconds" "[I", Cond.fieldLink RX1 40 "FloorGraph$Floor" "barred" "[Z", Cond.classLink RX1 43 "[[I", Cond.fieldLink RX1 45 "FloorGraph$Floor" "leaving" "[[I", Cond.fieldLink RX1 48 "FloorGraph$Floor" "leavings" "[I", Cond.instanceMethod yX0_init, Cond.code yX0_init cX0_init 1 none, Cond.methodLink RX0 3 objectInit, Cond.fieldLink RX0 9 "FloorGraph$Drive" "open" "[Z", Cond.fieldLink RX0 15 "FloorGraph$Drive" "reached" "[I", Cond.fieldLink RX0 19 "FloorGraph$Drive" "met" "[Z"]
def wsX2_init : List Cond := .code yX2_init cX2_init 1 none :: ((wsX2_init_r1 ++ wsX2_init_r2) ++ wsX10 ++ wsX20 ++ wsX00)
def wsX2_piece : List Cond := .code yX2_piece cX2_piece 4 (some .int) :: ([.classLink RX2 41 "java/lang/IllegalArgumentException", .initialized "java/lang/IllegalArgumentException", .classLink RX2 54 "java/lang/UnsupportedOperationException", .initialized "java/lang/UnsupportedOperationException", .fieldLink RX2 12 "FloorGraph" "floor" "LFloorGraph$Floor;", .fieldLink RX2 59 "FloorGraph" "changes" "I", .instanceMethod yX1_addPiece, .initialized RX1, .selects RX1 yX1_addPiece yX1_addPiece, .code yX1_addPiece cX1_addPiece 5 (some .int), .fieldLink RX1 51 "FloorGraph$Floor" "pieces" "I", .fieldLink RX1 9 "FloorGraph$Floor" "levels" "[I", .fieldLink RX1 15 "FloorGraph$Floor" "lengths" "[I", .fieldLink RX1 18 "FloorGraph$Floor" "widths" "[I", .fieldLink RX1 21 "FloorGraph$Floor" "twoWay" "[Z"] ++ wsX20 ++ wsX10 ++ (vx_atS RX2 45 "java/lang/IllegalArgumentException" ["java/lang/RuntimeException", "java/lang/Exception"]).filter goodWord ++ (vx_atS RX2 58 "java/lang/UnsupportedOperationException" ["java/lang/RuntimeException", "java/lang/Exception"]).filter goodWord)
def wsX2_needPiece : List Cond := .code yX2_needPiece cX2_needPiece 2 none :: ([.classLink RX2 41 "java/lang/IllegalArgumentException", .initialized "java/lang/IllegalArgumentException", .fieldLink RX2 12 "FloorGraph" "floor" "LFloorGraph$Floor;"] ++ wsX20 ++ wsX10 ++ (vx_atS RX2 45 "java/lang/IllegalArgumentException" ["java/lang/RuntimeException", "java/lang/Exception"]).filter goodWord)
def wsX2_needZeroOrOne : List Cond := .code yX2_needZeroOrOne cX2_needZeroOrOne 1 none :: ([.classLink RX2 41 "java/lang/IllegalArgumentException", .initialized "java/lang/IllegalArgumentException"] ++ (vx_atS RX2 45 "java/lang/IllegalArgumentException" ["java/lang/RuntimeException", "java/lang/Exception"]).filter goodWord)
def wsX2_joinEnds : List Cond := .code yX2_joinEnds cX2_joinEnds 4 (some .int) :: ([.classLink RX2 41 "java/lang/IllegalArgumentException", .initialized "java/lang/IllegalArgumentException", .classLink RX2 54 "java/lang/UnsupportedOperationException", .initialized "java/lang/UnsupportedOperationException", .fieldLink RX2 12 "FloorGraph" "floor" "LFloorGraph$Floor;", .fieldLink RX2 59 "FloorGraph" "changes" "I", .instanceMethod yX1_addJoin, .initialized RX1, .selects RX1 yX1_addJoin yX1_addJoin, .code yX1_addJoin cX1_addJoin 4 (some .int), .fieldLink RX1 59 "FloorGraph$Floor" "passages" "I", .methodLink RX1 55 yX1_addPassage, .instanceMethod yX1_addPassage, .selects RX1 yX1_addPassage yX1_addPassage, .code yX1_addPassage cX1_addPassage 4 none, .fieldLink RX1 31 "FloorGraph$Floor" "starts" "[I", .fieldLink RX1 34 "FloorGraph$Floor" "goals" "[I", .fieldLink RX1 37 "FloorGraph$Floor" "turnSeconds" "[I", .fieldLink RX1 45 "FloorGraph$Floor" "leaving" "[[I", .fieldLink RX1 48 "FloorGraph$Floor" "leavings" "[I"] ++ wsX20 ++ wsX10 ++ (vx_atS RX2 45 "java/lang/IllegalArgumentException" ["java/lang/RuntimeException", "java/lang/Exception"]).filter goodWord ++ (vx_atS RX2 58 "java/lang/UnsupportedOperationException" ["java/lang/RuntimeException", "java/lang/Exception"]).filter goodWord)
def wsX2_join_r1 : List Cond := [Cond.classLink RX2 41 "java/lang/IllegalArgumentException", Cond.initialized "java/lang/IllegalArgumentException", Cond.fieldLink RX2 12 "FloorGraph" "floor" "LFloorGraph$Floor;", Cond.methodLink RX2 66 yX2_needPiece, Cond.instanceMethod yX2_needPiece, Cond.selects RX2 yX2_needPiece yX2_needPiece, Cond.initialized RX2, Cond.code yX2_needPiece cX2_needPiece 2 none, Cond.methodLink RX2 70 yX2_needZeroOrOne, Cond.static yX2_needZeroOrOne, Cond.code yX2_needZeroOrOne cX2_needZeroOrOne 1 none, Cond.methodLink RX2 80 yX2_joinEnds, Cond.instanceMethod yX2_joinEnds, Cond.selects RX2 yX2_joinEnds yX2_joinEnds, Cond.code yX2_joinEnds cX2_joinEnds 4 (some .int), Cond.classLink RX2 54 "java/lang/UnsupportedOperationException", Cond.initialized "java/lang/UnsupportedOperationException", Cond.fieldLink RX2 59 "FloorGraph" "changes" "I", Cond.instanceMethod yX1_addJoin, Cond.initialized RX1, Cond.selects RX1 yX1_addJoin yX1_addJoin, Cond.code yX1_addJoin cX1_addJoin 4 (some .int), Cond.fieldLink RX1 59 "FloorGraph$Floor" "passages" "I", Cond.methodLink RX1 55 yX1_addPassage]
def wsX2_join_r2 : List Cond := [Cond.instanceMethod yX1_addPassage, Cond.selects RX1 yX1_addPassage yX1_addPassage, Cond.code yX1_addPassage cX1_addPassage 4 none, Cond.fieldLink RX1 31 "FloorGraph$Floor" "starts" "[I", Cond.fieldLink RX1 34 "FloorGraph$Floor" "goals" "[I", Cond.fieldLink RX1 37 "FloorGraph$Floor" "turnSeconds" "[I", Cond.fieldLink RX1 45 "FloorGraph$Floor" "leaving" "[[I", Cond.fieldLink RX1 48 "FloorGraph$Floor" "leavings" "[I"]
def wsX2_join : List Cond := .code yX2_join cX2_join 6 (some .int) :: ((wsX2_join_r1 ++ wsX2_join_r2) ++ wsX20 ++ wsX10 ++ (vx_atS RX2 45 "java/lang/IllegalArgumentException" ["java/lang/RuntimeException", "java/lang/Exception"]).filter goodWord ++ (vx_atS RX2 58 "java/lang/UnsupportedOperationException" ["java/lang/RuntimeException", "java/lang/Exception"]).filter goodWord)
def wsX2_lift_r1 : List Cond := [Cond.classLink RX2 41 "java/lang/IllegalArgumentException", Cond.initialized "java/lang/IllegalArgumentException", Cond.fieldLink RX2 12 "FloorGraph" "floor" "LFloorGraph$Floor;", Cond.methodLink RX2 66 yX2_needPiece, Cond.instanceMethod yX2_needPiece, Cond.selects RX2 yX2_needPiece yX2_needPiece, Cond.initialized RX2, Cond.code yX2_needPiece cX2_needPiece 2 none, Cond.methodLink RX2 80 yX2_joinEnds, Cond.instanceMethod yX2_joinEnds, Cond.selects RX2 yX2_joinEnds yX2_joinEnds, Cond.code yX2_joinEnds cX2_joinEnds 4 (some .int), Cond.classLink RX2 54 "java/lang/UnsupportedOperationException", Cond.initialized "java/lang/UnsupportedOperationException", Cond.fieldLink RX2 59 "FloorGraph" "changes" "I", Cond.instanceMethod yX1_addJoin, Cond.initialized RX1, Cond.selects RX1 yX1_addJoin yX1_addJoin, Cond.code yX1_addJoin cX1_addJoin 4 (some .int), Cond.fieldLink RX1 59 "FloorGraph$Floor" "passages" "I", Cond.methodLink RX1 55 yX1_addPassage, Cond.instanceMethod yX1_addPassage, Cond.selects RX1 yX1_addPassage yX1_addPassage, Cond.code yX1_addPassage cX1_addPassage 4 none]
def wsX2_lift_r2 : List Cond := [Cond.fieldLink RX1 31 "FloorGraph$Floor" "starts" "[I", Cond.fieldLink RX1 34 "FloorGraph$Floor" "goals" "[I", Cond.fieldLink RX1 37 "FloorGraph$Floor" "turnSeconds" "[I", Cond.fieldLink RX1 45 "FloorGraph$Floor" "leaving" "[[I", Cond.fieldLink RX1 48 "FloorGraph$Floor" "leavings" "[I"]
def wsX2_lift : List Cond := .code yX2_lift cX2_lift 4 (some .int) :: ((wsX2_lift_r1 ++ wsX2_lift_r2) ++ wsX20 ++ wsX10 ++ (vx_atS RX2 45 "java/lang/IllegalArgumentException" ["java/lang/RuntimeException", "java/lang/Exception"]).filter goodWord ++ (vx_atS RX2 58 "java/lang/UnsupportedOperationException" ["java/lang/RuntimeException", "java/lang/Exception"]).filter goodWord)
def wsX2_turn : List Cond := .code yX2_turn cX2_turn 4 (some .int) :: ([.classLink RX2 41 "java/lang/IllegalArgumentException", .initialized "java/lang/IllegalArgumentException", .fieldLink RX2 12 "FloorGraph" "floor" "LFloorGraph$Floor;", .fieldLink RX2 59 "FloorGraph" "changes" "I", .methodLink RX2 70 yX2_needZeroOrOne, .static yX2_needZeroOrOne, .initialized RX2, .code yX2_needZeroOrOne cX2_needZeroOrOne 1 none, .instanceMethod yX1_barredAmong, .initialized RX1, .selects RX1 yX1_barredAmong yX1_barredAmong, .code yX1_barredAmong cX1_barredAmong 5 (some .int), .fieldLink RX1 40 "FloorGraph$Floor" "barred" "[Z"] ++ wsX20 ++ wsX10 ++ (vx_atS RX2 45 "java/lang/IllegalArgumentException" ["java/lang/RuntimeException", "java/lang/Exception"]).filter goodWord)
def wsX2_needWidth : List Cond := .code yX2_needWidth cX2_needWidth 1 none :: ([.classLink RX2 41 "java/lang/IllegalArgumentException", .initialized "java/lang/IllegalArgumentException"] ++ (vx_atS RX2 45 "java/lang/IllegalArgumentException" ["java/lang/RuntimeException", "java/lang/Exception"]).filter goodWord)
def wsX2_width : List Cond := .code yX2_width cX2_width 3 none :: ([.fieldLink RX2 59 "FloorGraph" "changes" "I", .fieldLink RX2 12 "FloorGraph" "floor" "LFloorGraph$Floor;", .methodLink RX2 66 yX2_needPiece, .instanceMethod yX2_needPiece, .selects RX2 yX2_needPiece yX2_needPiece, .initialized RX2, .code yX2_needPiece cX2_needPiece 2 none, .classLink RX2 41 "java/lang/IllegalArgumentException", .initialized "java/lang/IllegalArgumentException", .methodLink RX2 99 yX2_needWidth, .static yX2_needWidth, .code yX2_needWidth cX2_needWidth 1 none] ++ wsX20 ++ wsX10 ++ (vx_atS RX2 45 "java/lang/IllegalArgumentException" ["java/lang/RuntimeException", "java/lang/Exception"]).filter goodWord)
def wsX2_needHour : List Cond := .code yX2_needHour cX2_needHour 1 none :: ([.classLink RX2 41 "java/lang/IllegalArgumentException", .initialized "java/lang/IllegalArgumentException"] ++ (vx_atS RX2 45 "java/lang/IllegalArgumentException" ["java/lang/RuntimeException", "java/lang/Exception"]).filter goodWord)
def wsX2_zone : List Cond := .code yX2_zone cX2_zone 4 (some .int) :: ([.fieldLink RX2 59 "FloorGraph" "changes" "I", .fieldLink RX2 12 "FloorGraph" "floor" "LFloorGraph$Floor;", .methodLink RX2 66 yX2_needPiece, .instanceMethod yX2_needPiece, .selects RX2 yX2_needPiece yX2_needPiece, .initialized RX2, .code yX2_needPiece cX2_needPiece 2 none, .classLink RX2 41 "java/lang/IllegalArgumentException", .initialized "java/lang/IllegalArgumentException", .methodLink RX2 105 yX2_needHour, .static yX2_needHour, .code yX2_needHour cX2_needHour 1 none, .instanceMethod yX1_setZone, .initialized RX1, .selects RX1 yX1_setZone yX1_setZone, .code yX1_setZone cX1_setZone 5 (some .int), .fieldLink RX1 28 "FloorGraph$Floor" "barredHours" "[I", .methodLink RX1 62 yJ6_bitCount_0f7a4, .static yJ6_bitCount_0f7a4, .initialized RJ6, .code yJ6_bitCount_0f7a4 cJ6_bitCount_0f7a4 1 (some .int), .constant RJ6 265 (1431655765), .constant RJ6 266 (858993459), .constant RJ6 267 (252645135)] ++ wsX20 ++ wsX10 ++ (vx_atS RX2 45 "java/lang/IllegalArgumentException" ["java/lang/RuntimeException", "java/lang/Exception"]).filter goodWord)
def wsX2_closed : List Cond := .code yX2_closed cX2_closed 3 (some .int) :: ([.fieldLink RX2 59 "FloorGraph" "changes" "I", .fieldLink RX2 12 "FloorGraph" "floor" "LFloorGraph$Floor;", .methodLink RX2 66 yX2_needPiece, .instanceMethod yX2_needPiece, .selects RX2 yX2_needPiece yX2_needPiece, .initialized RX2, .code yX2_needPiece cX2_needPiece 2 none, .classLink RX2 41 "java/lang/IllegalArgumentException", .initialized "java/lang/IllegalArgumentException", .instanceMethod yX1_shutPieces, .initialized RX1, .selects RX1 yX1_shutPieces yX1_shutPieces, .code yX1_shutPieces cX1_shutPieces 3 (some .int), .fieldLink RX1 51 "FloorGraph$Floor" "pieces" "I", .fieldLink RX1 25 "FloorGraph$Floor" "shut" "[Z"] ++ wsX20 ++ wsX10 ++ (vx_atS RX2 45 "java/lang/IllegalArgumentException" ["java/lang/RuntimeException", "java/lang/Exception"]).filter goodWord)
def wsX2_robot : List Cond := .code yX2_robot cX2_robot 2 (some .int) :: ([.classLink RX2 54 "java/lang/UnsupportedOperationException", .initialized "java/lang/UnsupportedOperationException", .fieldLink RX2 118 "FloorGraph" "robots" "I", .fieldLink RX2 12 "FloorGraph" "floor" "LFloorGraph$Floor;", .fieldLink RX2 59 "FloorGraph" "changes" "I", .fieldLink RX2 23 "FloorGraph" "robotWidths" "[I", .methodLink RX2 99 yX2_needWidth, .static yX2_needWidth, .initialized RX2, .code yX2_needWidth cX2_needWidth 1 none, .classLink RX2 41 "java/lang/IllegalArgumentException", .initialized "java/lang/IllegalArgumentException", .instanceMethod yX1_hasPieceFor, .initialized RX1, .selects RX1 yX1_hasPieceFor yX1_hasPieceFor, .code yX1_hasPieceFor cX1_hasPieceFor 3 (some .boolean), .fieldLink RX1 51 "FloorGraph$Floor" "pieces" "I", .fieldLink RX1 18 "FloorGraph$Floor" "widths" "[I"] ++ wsX20 ++ wsX10 ++ (vx_atS RX2 58 "java/lang/UnsupportedOperationException" ["java/lang/RuntimeException", "java/lang/Exception"]).filter goodWord ++ (vx_atS RX2 45 "java/lang/IllegalArgumentException" ["java/lang/RuntimeException", "java/lang/Exception"]).filter goodWord)
def wsX2_needJourney : List Cond := .code yX2_needJourney cX2_needJourney 5 none :: ([.classLink RX2 41 "java/lang/IllegalArgumentException", .initialized "java/lang/IllegalArgumentException", .fieldLink RX2 118 "FloorGraph" "robots" "I", .methodLink RX2 66 yX2_needPiece, .instanceMethod yX2_needPiece, .selects RX2 yX2_needPiece yX2_needPiece, .initialized RX2, .code yX2_needPiece cX2_needPiece 2 none, .fieldLink RX2 12 "FloorGraph" "floor" "LFloorGraph$Floor;", .methodLink RX2 105 yX2_needHour, .static yX2_needHour, .code yX2_needHour cX2_needHour 1 none] ++ wsX20 ++ wsX10 ++ (vx_atS RX2 45 "java/lang/IllegalArgumentException" ["java/lang/RuntimeException", "java/lang/Exception"]).filter goodWord)
def wsX2_way_r1 : List Cond := [Cond.fieldLink RX2 19 "FloorGraph" "drive" "LFloorGraph$Drive;", Cond.fieldLink RX2 12 "FloorGraph" "floor" "LFloorGraph$Floor;", Cond.fieldLink RX2 23 "FloorGraph" "robotWidths" "[I", Cond.fieldLink RX2 30 "FloorGraph" "wayBack" "[I", Cond.fieldLink RX2 143 "FloorGraph" "waySize" "I", Cond.methodLink RX2 127 yX2_needJourney, Cond.instanceMethod yX2_needJourney, Cond.selects RX2 yX2_needJourney yX2_needJourney, Cond.initialized RX2, Cond.code yX2_needJourney cX2_needJourney 5 none, Cond.classLink RX2 41 "java/lang/IllegalArgumentException", Cond.initialized "java/lang/IllegalArgumentException", Cond.fieldLink RX2 118 "FloorGraph" "robots" "I", Cond.methodLink RX2 66 yX2_needPiece, Cond.instanceMethod yX2_needPiece, Cond.selects RX2 yX2_needPiece yX2_needPiece, Cond.code yX2_needPiece cX2_needPiece 2 none, Cond.methodLink RX2 105 yX2_needHour, Cond.static yX2_needHour, Cond.code yX2_needHour cX2_needHour 1 none, Cond.instanceMethod yX0_begin, Cond.initialized RX0, Cond.selects RX0 yX0_begin yX0_begin, Cond.code yX0_begin cX0_begin 5 none]
def wsX2_way_r2 : List Cond := [Cond.fieldLink RX0 9 "FloorGraph$Drive" "open" "[Z", Cond.instanceMethod yX1_mayEnter, Cond.initialized RX1, Cond.selects RX1 yX1_mayEnter yX1_mayEnter, Cond.code yX1_mayEnter cX1_mayEnter 5 (some .boolean), Cond.fieldLink RX1 25 "FloorGraph$Floor" "shut" "[Z", Cond.fieldLink RX1 28 "FloorGraph$Floor" "barredHours" "[I", Cond.fieldLink RX1 18 "FloorGraph$Floor" "widths" "[I", Cond.fieldLink RX1 21 "FloorGraph$Floor" "twoWay" "[Z", Cond.instanceMethod yX0_spread, Cond.selects RX0 yX0_spread yX0_spread, Cond.code yX0_spread cX0_spread 5 none, Cond.fieldLink RX0 15 "FloorGraph$Drive" "reached" "[I", Cond.constant RX0 38 (1000000), Cond.methodLink RX0 39 yJ7_fill_53178, Cond.static yJ7_fill_53178, Cond.initialized RJ7, Cond.code yJ7_fill_53178 cJ7_fill_53178 4 none, Cond.instanceMethod yX1_mayLeave, Cond.selects RX1 yX1_mayLeave yX1_mayLeave, Cond.code yX1_mayLeave cX1_mayLeave 2 (some .boolean), Cond.methodLink RX0 49 yX0_spreadOnce, Cond.instanceMethod yX0_spreadOnce, Cond.selects RX0 yX0_spreadOnce yX0_spreadOnce]
def wsX2_way_r3 : List Cond := [Cond.code yX0_spreadOnce cX0_spreadOnce 6 (some .boolean), Cond.methodLink RX0 53 yX0_secondBehind, Cond.instanceMethod yX0_secondBehind, Cond.selects RX0 yX0_secondBehind yX0_secondBehind, Cond.code yX0_secondBehind cX0_secondBehind 4 (some .int), Cond.methodLink RX0 63 yX0_secondAt, Cond.instanceMethod yX0_secondAt, Cond.selects RX0 yX0_secondAt yX0_secondAt, Cond.code yX0_secondAt cX0_secondAt 4 (some .int), Cond.instanceMethod yX0_trace, Cond.selects RX0 yX0_trace yX0_trace, Cond.code yX0_trace cX0_trace 8 (some .int), Cond.methodLink RX0 69 yX0_lastPassage, Cond.instanceMethod yX0_lastPassage, Cond.selects RX0 yX0_lastPassage yX0_lastPassage, Cond.code yX0_lastPassage cX0_lastPassage 7 (some .int), Cond.methodLink RX0 72 yX0_passageBefore, Cond.instanceMethod yX0_passageBefore, Cond.selects RX0 yX0_passageBefore yX0_passageBefore, Cond.code yX0_passageBefore cX0_passageBefore 4 (some .int), Cond.instanceMethod yX0_secondsTo, Cond.selects RX0 yX0_secondsTo yX0_secondsTo, Cond.code yX0_secondsTo cX0_secondsTo 5 (some .int)]
def wsX2_way : List Cond := .code yX2_way cX2_way 5 (some .int) :: ((wsX2_way_r1 ++ (wsX2_way_r2 ++ wsX2_way_r3)) ++ wsX20 ++ wsX10 ++ wsX00 ++ (vx_atS RX2 45 "java/lang/IllegalArgumentException" ["java/lang/RuntimeException", "java/lang/Exception"]).filter goodWord)
def wsX2_step : List Cond := .code yX2_step cX2_step 2 (some .int) :: ([.fieldLink RX2 143 "FloorGraph" "waySize" "I", .fieldLink RX2 30 "FloorGraph" "wayBack" "[I"] ++ wsX20)
def wsX2_same_r1 : List Cond := [Cond.fieldLink RX2 19 "FloorGraph" "drive" "LFloorGraph$Drive;", Cond.fieldLink RX2 12 "FloorGraph" "floor" "LFloorGraph$Floor;", Cond.fieldLink RX2 23 "FloorGraph" "robotWidths" "[I", Cond.methodLink RX2 127 yX2_needJourney, Cond.instanceMethod yX2_needJourney, Cond.selects RX2 yX2_needJourney yX2_needJourney, Cond.initialized RX2, Cond.code yX2_needJourney cX2_needJourney 5 none, Cond.classLink RX2 41 "java/lang/IllegalArgumentException", Cond.initialized "java/lang/IllegalArgumentException", Cond.fieldLink RX2 118 "FloorGraph" "robots" "I", Cond.methodLink RX2 66 yX2_needPiece, Cond.instanceMethod yX2_needPiece, Cond.selects RX2 yX2_needPiece yX2_needPiece, Cond.code yX2_needPiece cX2_needPiece 2 none, Cond.methodLink RX2 105 yX2_needHour, Cond.static yX2_needHour, Cond.code yX2_needHour cX2_needHour 1 none, Cond.instanceMethod yX0_begin, Cond.initialized RX0, Cond.selects RX0 yX0_begin yX0_begin, Cond.code yX0_begin cX0_begin 5 none, Cond.fieldLink RX0 9 "FloorGraph$Drive" "open" "[Z", Cond.instanceMethod yX1_mayEnter]
def wsX2_same_r2 : List Cond := [Cond.initialized RX1, Cond.selects RX1 yX1_mayEnter yX1_mayEnter, Cond.code yX1_mayEnter cX1_mayEnter 5 (some .boolean), Cond.fieldLink RX1 25 "FloorGraph$Floor" "shut" "[Z", Cond.fieldLink RX1 28 "FloorGraph$Floor" "barredHours" "[I", Cond.fieldLink RX1 18 "FloorGraph$Floor" "widths" "[I", Cond.fieldLink RX1 21 "FloorGraph$Floor" "twoWay" "[Z", Cond.instanceMethod yX0_spread, Cond.selects RX0 yX0_spread yX0_spread, Cond.code yX0_spread cX0_spread 5 none, Cond.fieldLink RX0 15 "FloorGraph$Drive" "reached" "[I", Cond.constant RX0 38 (1000000), Cond.methodLink RX0 39 yJ7_fill_53178, Cond.static yJ7_fill_53178, Cond.initialized RJ7, Cond.code yJ7_fill_53178 cJ7_fill_53178 4 none, Cond.instanceMethod yX1_mayLeave, Cond.selects RX1 yX1_mayLeave yX1_mayLeave, Cond.code yX1_mayLeave cX1_mayLeave 2 (some .boolean), Cond.methodLink RX0 49 yX0_spreadOnce, Cond.instanceMethod yX0_spreadOnce, Cond.selects RX0 yX0_spreadOnce yX0_spreadOnce, Cond.code yX0_spreadOnce cX0_spreadOnce 6 (some .boolean), Cond.methodLink RX0 53 yX0_secondBehind]
def wsX2_same_r3 : List Cond := [Cond.instanceMethod yX0_secondBehind, Cond.selects RX0 yX0_secondBehind yX0_secondBehind, Cond.code yX0_secondBehind cX0_secondBehind 4 (some .int), Cond.methodLink RX0 63 yX0_secondAt, Cond.instanceMethod yX0_secondAt, Cond.selects RX0 yX0_secondAt yX0_secondAt, Cond.code yX0_secondAt cX0_secondAt 4 (some .int), Cond.instanceMethod yX0_secondsTo, Cond.selects RX0 yX0_secondsTo yX0_secondsTo, Cond.code yX0_secondsTo cX0_secondsTo 5 (some .int), Cond.methodLink RX0 69 yX0_lastPassage, Cond.instanceMethod yX0_lastPassage, Cond.selects RX0 yX0_lastPassage yX0_lastPassage, Cond.code yX0_lastPassage cX0_lastPassage 7 (some .int)]
def wsX2_same : List Cond := .code yX2_same cX2_same 7 (some .boolean) :: ((wsX2_same_r1 ++ (wsX2_same_r2 ++ wsX2_same_r3)) ++ wsX20 ++ wsX10 ++ wsX00 ++ (vx_atS RX2 45 "java/lang/IllegalArgumentException" ["java/lang/RuntimeException", "java/lang/Exception"]).filter goodWord)
def wsX2_hasCharger : List Cond := .code yX2_hasCharger cX2_hasCharger 3 (some .boolean) :: ([.fieldLink RX2 158 "FloorGraph" "chargers" "I", .fieldLink RX2 27 "FloorGraph" "chargerPieces" "[I"] ++ wsX20)
def wsX2_charger : List Cond := .code yX2_charger cX2_charger 2 (some .int) :: ([.classLink RX2 153 "java/lang/IllegalStateException", .initialized "java/lang/IllegalStateException", .classLink RX2 54 "java/lang/UnsupportedOperationException", .initialized "java/lang/UnsupportedOperationException", .fieldLink RX2 158 "FloorGraph" "chargers" "I", .fieldLink RX2 59 "FloorGraph" "changes" "I", .fieldLink RX2 27 "FloorGraph" "chargerPieces" "[I", .methodLink RX2 66 yX2_needPiece, .instanceMethod yX2_needPiece, .selects RX2 yX2_needPiece yX2_needPiece, .initialized RX2, .code yX2_needPiece cX2_needPiece 2 none, .classLink RX2 41 "java/lang/IllegalArgumentException", .initialized "java/lang/IllegalArgumentException", .fieldLink RX2 12 "FloorGraph" "floor" "LFloorGraph$Floor;", .methodLink RX2 150 yX2_hasCharger, .instanceMethod yX2_hasCharger, .selects RX2 yX2_hasCharger yX2_hasCharger, .code yX2_hasCharger cX2_hasCharger 3 (some .boolean)] ++ wsX20 ++ wsX10 ++ (vx_atS RX2 157 "java/lang/IllegalStateException" ["java/lang/RuntimeException", "java/lang/Exception"]).filter goodWord ++ (vx_atS RX2 58 "java/lang/UnsupportedOperationException" ["java/lang/RuntimeException", "java/lang/Exception"]).filter goodWord ++ (vx_atS RX2 45 "java/lang/IllegalArgumentException" ["java/lang/RuntimeException", "java/lang/Exception"]).filter goodWord)
def wsX2_nearest_r1 : List Cond := [Cond.fieldLink RX2 19 "FloorGraph" "drive" "LFloorGraph$Drive;", Cond.fieldLink RX2 12 "FloorGraph" "floor" "LFloorGraph$Floor;", Cond.fieldLink RX2 23 "FloorGraph" "robotWidths" "[I", Cond.constant RX2 163 (1000000), Cond.methodLink RX2 127 yX2_needJourney, Cond.instanceMethod yX2_needJourney, Cond.selects RX2 yX2_needJourney yX2_needJourney, Cond.initialized RX2, Cond.code yX2_needJourney cX2_needJourney 5 none, Cond.classLink RX2 41 "java/lang/IllegalArgumentException", Cond.initialized "java/lang/IllegalArgumentException", Cond.fieldLink RX2 118 "FloorGraph" "robots" "I", Cond.methodLink RX2 66 yX2_needPiece, Cond.instanceMethod yX2_needPiece, Cond.selects RX2 yX2_needPiece yX2_needPiece, Cond.code yX2_needPiece cX2_needPiece 2 none, Cond.methodLink RX2 105 yX2_needHour, Cond.static yX2_needHour, Cond.code yX2_needHour cX2_needHour 1 none, Cond.instanceMethod yX0_begin, Cond.initialized RX0, Cond.selects RX0 yX0_begin yX0_begin, Cond.code yX0_begin cX0_begin 5 none, Cond.fieldLink RX0 9 "FloorGraph$Drive" "open" "[Z"]
def wsX2_nearest_r2 : List Cond := [Cond.instanceMethod yX1_mayEnter, Cond.initialized RX1, Cond.selects RX1 yX1_mayEnter yX1_mayEnter, Cond.code yX1_mayEnter cX1_mayEnter 5 (some .boolean), Cond.fieldLink RX1 25 "FloorGraph$Floor" "shut" "[Z", Cond.fieldLink RX1 28 "FloorGraph$Floor" "barredHours" "[I", Cond.fieldLink RX1 18 "FloorGraph$Floor" "widths" "[I", Cond.fieldLink RX1 21 "FloorGraph$Floor" "twoWay" "[Z", Cond.instanceMethod yX0_spread, Cond.selects RX0 yX0_spread yX0_spread, Cond.code yX0_spread cX0_spread 5 none, Cond.fieldLink RX0 15 "FloorGraph$Drive" "reached" "[I", Cond.constant RX0 38 (1000000), Cond.methodLink RX0 39 yJ7_fill_53178, Cond.static yJ7_fill_53178, Cond.initialized RJ7, Cond.code yJ7_fill_53178 cJ7_fill_53178 4 none, Cond.instanceMethod yX1_mayLeave, Cond.selects RX1 yX1_mayLeave yX1_mayLeave, Cond.code yX1_mayLeave cX1_mayLeave 2 (some .boolean), Cond.methodLink RX0 49 yX0_spreadOnce, Cond.instanceMethod yX0_spreadOnce, Cond.selects RX0 yX0_spreadOnce yX0_spreadOnce, Cond.code yX0_spreadOnce cX0_spreadOnce 6 (some .boolean)]
def wsX2_nearest_r3 : List Cond := [Cond.methodLink RX0 53 yX0_secondBehind, Cond.instanceMethod yX0_secondBehind, Cond.selects RX0 yX0_secondBehind yX0_secondBehind, Cond.code yX0_secondBehind cX0_secondBehind 4 (some .int), Cond.methodLink RX0 63 yX0_secondAt, Cond.instanceMethod yX0_secondAt, Cond.selects RX0 yX0_secondAt yX0_secondAt, Cond.code yX0_secondAt cX0_secondAt 4 (some .int), Cond.methodLink RX2 150 yX2_hasCharger, Cond.instanceMethod yX2_hasCharger, Cond.selects RX2 yX2_hasCharger yX2_hasCharger, Cond.code yX2_hasCharger cX2_hasCharger 3 (some .boolean), Cond.fieldLink RX2 158 "FloorGraph" "chargers" "I", Cond.fieldLink RX2 27 "FloorGraph" "chargerPieces" "[I", Cond.instanceMethod yX0_secondsTo, Cond.selects RX0 yX0_secondsTo yX0_secondsTo, Cond.code yX0_secondsTo cX0_secondsTo 5 (some .int), Cond.methodLink RX0 69 yX0_lastPassage, Cond.instanceMethod yX0_lastPassage, Cond.selects RX0 yX0_lastPassage yX0_lastPassage, Cond.code yX0_lastPassage cX0_lastPassage 7 (some .int)]
def wsX2_nearest : List Cond := .code yX2_nearest cX2_nearest 8 (some .int) :: ((wsX2_nearest_r1 ++ (wsX2_nearest_r2 ++ wsX2_nearest_r3)) ++ wsX20 ++ wsX10 ++ wsX00 ++ (vx_atS RX2 45 "java/lang/IllegalArgumentException" ["java/lang/RuntimeException", "java/lang/Exception"]).filter goodWord)
def wsX2_workRow_r1 : List Cond := [Cond.fieldLink RX2 27 "FloorGraph" "chargerPieces" "[I", Cond.fieldLink RX2 19 "FloorGraph" "drive" "LFloorGraph$Drive;", Cond.fieldLink RX2 12 "FloorGraph" "floor" "LFloorGraph$Floor;", Cond.fieldLink RX2 23 "FloorGraph" "robotWidths" "[I", Cond.fieldLink RX2 158 "FloorGraph" "chargers" "I", Cond.fieldLink RX2 35 "FloorGraph" "tableRows" "[[I", Cond.fieldLink RX2 38 "FloorGraph" "rowWorkedAt" "[I", Cond.fieldLink RX2 59 "FloorGraph" "changes" "I", Cond.fieldLink RX2 174 "FloorGraph" "rowsWorked" "I", Cond.instanceMethod yX0_begin, Cond.initialized RX0, Cond.selects RX0 yX0_begin yX0_begin, Cond.code yX0_begin cX0_begin 5 none, Cond.fieldLink RX0 9 "FloorGraph$Drive" "open" "[Z", Cond.instanceMethod yX1_mayEnter, Cond.initialized RX1, Cond.selects RX1 yX1_mayEnter yX1_mayEnter, Cond.code yX1_mayEnter cX1_mayEnter 5 (some .boolean), Cond.fieldLink RX1 25 "FloorGraph$Floor" "shut" "[Z", Cond.fieldLink RX1 28 "FloorGraph$Floor" "barredHours" "[I", Cond.fieldLink RX1 18 "FloorGraph$Floor" "widths" "[I", Cond.fieldLink RX1 21 "FloorGraph$Floor" "twoWay" "[Z", Cond.instanceMethod yX0_spread, Cond.selects RX0 yX0_spread yX0_spread]
def wsX2_workRow_r2 : List Cond := [Cond.code yX0_spread cX0_spread 5 none, Cond.fieldLink RX0 15 "FloorGraph$Drive" "reached" "[I", Cond.constant RX0 38 (1000000), Cond.methodLink RX0 39 yJ7_fill_53178, Cond.static yJ7_fill_53178, Cond.initialized RJ7, Cond.code yJ7_fill_53178 cJ7_fill_53178 4 none, Cond.instanceMethod yX1_mayLeave, Cond.selects RX1 yX1_mayLeave yX1_mayLeave, Cond.code yX1_mayLeave cX1_mayLeave 2 (some .boolean), Cond.methodLink RX0 49 yX0_spreadOnce, Cond.instanceMethod yX0_spreadOnce, Cond.selects RX0 yX0_spreadOnce yX0_spreadOnce, Cond.code yX0_spreadOnce cX0_spreadOnce 6 (some .boolean), Cond.methodLink RX0 53 yX0_secondBehind, Cond.instanceMethod yX0_secondBehind, Cond.selects RX0 yX0_secondBehind yX0_secondBehind, Cond.code yX0_secondBehind cX0_secondBehind 4 (some .int), Cond.methodLink RX0 63 yX0_secondAt, Cond.instanceMethod yX0_secondAt, Cond.selects RX0 yX0_secondAt yX0_secondAt, Cond.code yX0_secondAt cX0_secondAt 4 (some .int), Cond.instanceMethod yX0_secondsTo, Cond.selects RX0 yX0_secondsTo yX0_secondsTo]
def wsX2_workRow_r3 : List Cond := [Cond.code yX0_secondsTo cX0_secondsTo 5 (some .int), Cond.methodLink RX0 69 yX0_lastPassage, Cond.instanceMethod yX0_lastPassage, Cond.selects RX0 yX0_lastPassage yX0_lastPassage, Cond.code yX0_lastPassage cX0_lastPassage 7 (some .int)]
def wsX2_workRow : List Cond := .code yX2_workRow cX2_workRow 4 none :: ((wsX2_workRow_r1 ++ (wsX2_workRow_r2 ++ wsX2_workRow_r3)) ++ wsX20 ++ wsX10 ++ wsX00)
def wsX2_table_r1 : List Cond := [Cond.classLink RX2 153 "java/lang/IllegalStateException", Cond.initialized "java/lang/IllegalStateException", Cond.fieldLink RX2 118 "FloorGraph" "robots" "I", Cond.fieldLink RX2 158 "FloorGraph" "chargers" "I", Cond.classLink RX2 166 RJx00060, Cond.instantiable RJx00060 6, Cond.initialized RJx00060, Cond.fieldLink RX2 38 "FloorGraph" "rowWorkedAt" "[I", Cond.fieldLink RX2 59 "FloorGraph" "changes" "I", Cond.fieldLink RX2 35 "FloorGraph" "tableRows" "[[I", Cond.methodLink RX2 171 yX2_workRow, Cond.instanceMethod yX2_workRow, Cond.selects RX2 yX2_workRow yX2_workRow, Cond.initialized RX2, Cond.code yX2_workRow cX2_workRow 4 none, Cond.fieldLink RX2 27 "FloorGraph" "chargerPieces" "[I", Cond.fieldLink RX2 19 "FloorGraph" "drive" "LFloorGraph$Drive;", Cond.fieldLink RX2 12 "FloorGraph" "floor" "LFloorGraph$Floor;", Cond.fieldLink RX2 23 "FloorGraph" "robotWidths" "[I", Cond.fieldLink RX2 174 "FloorGraph" "rowsWorked" "I", Cond.instanceMethod yX0_begin, Cond.initialized RX0, Cond.selects RX0 yX0_begin yX0_begin, Cond.code yX0_begin cX0_begin 5 none]
def wsX2_table_r2 : List Cond := [Cond.fieldLink RX0 9 "FloorGraph$Drive" "open" "[Z", Cond.instanceMethod yX1_mayEnter, Cond.initialized RX1, Cond.selects RX1 yX1_mayEnter yX1_mayEnter, Cond.code yX1_mayEnter cX1_mayEnter 5 (some .boolean), Cond.fieldLink RX1 25 "FloorGraph$Floor" "shut" "[Z", Cond.fieldLink RX1 28 "FloorGraph$Floor" "barredHours" "[I", Cond.fieldLink RX1 18 "FloorGraph$Floor" "widths" "[I", Cond.fieldLink RX1 21 "FloorGraph$Floor" "twoWay" "[Z", Cond.instanceMethod yX0_spread, Cond.selects RX0 yX0_spread yX0_spread, Cond.code yX0_spread cX0_spread 5 none, Cond.fieldLink RX0 15 "FloorGraph$Drive" "reached" "[I", Cond.constant RX0 38 (1000000), Cond.methodLink RX0 39 yJ7_fill_53178, Cond.static yJ7_fill_53178, Cond.initialized RJ7, Cond.code yJ7_fill_53178 cJ7_fill_53178 4 none, Cond.instanceMethod yX1_mayLeave, Cond.selects RX1 yX1_mayLeave yX1_mayLeave, Cond.code yX1_mayLeave cX1_mayLeave 2 (some .boolean), Cond.methodLink RX0 49 yX0_spreadOnce, Cond.instanceMethod yX0_spreadOnce, Cond.selects RX0 yX0_spreadOnce yX0_spreadOnce]
def wsX2_table_r3 : List Cond := [Cond.code yX0_spreadOnce cX0_spreadOnce 6 (some .boolean), Cond.methodLink RX0 53 yX0_secondBehind, Cond.instanceMethod yX0_secondBehind, Cond.selects RX0 yX0_secondBehind yX0_secondBehind, Cond.code yX0_secondBehind cX0_secondBehind 4 (some .int), Cond.methodLink RX0 63 yX0_secondAt, Cond.instanceMethod yX0_secondAt, Cond.selects RX0 yX0_secondAt yX0_secondAt, Cond.code yX0_secondAt cX0_secondAt 4 (some .int), Cond.instanceMethod yX0_secondsTo, Cond.selects RX0 yX0_secondsTo yX0_secondsTo, Cond.code yX0_secondsTo cX0_secondsTo 5 (some .int), Cond.methodLink RX0 69 yX0_lastPassage, Cond.instanceMethod yX0_lastPassage, Cond.selects RX0 yX0_lastPassage yX0_lastPassage, Cond.code yX0_lastPassage cX0_lastPassage 7 (some .int)]
def wsX2_table : List Cond := .code yX2_table cX2_table 3 (some .int) :: ((wsX2_table_r1 ++ (wsX2_table_r2 ++ wsX2_table_r3)) ++ wsX20 ++ wsJx000600 ++ wsX10 ++ wsX00 ++ (vx_atS RX2 157 "java/lang/IllegalStateException" ["java/lang/RuntimeException", "java/lang/Exception"]).filter goodWord)
def wsX2_rows : List Cond := .code yX2_rows cX2_rows 1 (some .int) :: ([.fieldLink RX2 174 "FloorGraph" "rowsWorked" "I"] ++ wsX20)
def wsX2_plain_r1 : List Cond := [Cond.classLink RX2 41 "java/lang/IllegalArgumentException", Cond.initialized "java/lang/IllegalArgumentException", Cond.fieldLink RX2 19 "FloorGraph" "drive" "LFloorGraph$Drive;", Cond.fieldLink RX2 12 "FloorGraph" "floor" "LFloorGraph$Floor;", Cond.fieldLink RX2 23 "FloorGraph" "robotWidths" "[I", Cond.methodLink RX2 127 yX2_needJourney, Cond.instanceMethod yX2_needJourney, Cond.selects RX2 yX2_needJourney yX2_needJourney, Cond.initialized RX2, Cond.code yX2_needJourney cX2_needJourney 5 none, Cond.fieldLink RX2 118 "FloorGraph" "robots" "I", Cond.methodLink RX2 66 yX2_needPiece, Cond.instanceMethod yX2_needPiece, Cond.selects RX2 yX2_needPiece yX2_needPiece, Cond.code yX2_needPiece cX2_needPiece 2 none, Cond.methodLink RX2 105 yX2_needHour, Cond.static yX2_needHour, Cond.code yX2_needHour cX2_needHour 1 none, Cond.instanceMethod yX0_begin, Cond.initialized RX0, Cond.selects RX0 yX0_begin yX0_begin, Cond.code yX0_begin cX0_begin 5 none, Cond.fieldLink RX0 9 "FloorGraph$Drive" "open" "[Z", Cond.instanceMethod yX1_mayEnter]
def wsX2_plain_r2 : List Cond := [Cond.initialized RX1, Cond.selects RX1 yX1_mayEnter yX1_mayEnter, Cond.code yX1_mayEnter cX1_mayEnter 5 (some .boolean), Cond.fieldLink RX1 25 "FloorGraph$Floor" "shut" "[Z", Cond.fieldLink RX1 28 "FloorGraph$Floor" "barredHours" "[I", Cond.fieldLink RX1 18 "FloorGraph$Floor" "widths" "[I", Cond.fieldLink RX1 21 "FloorGraph$Floor" "twoWay" "[Z", Cond.instanceMethod yX0_waysBetween, Cond.selects RX0 yX0_waysBetween yX0_waysBetween, Cond.code yX0_waysBetween cX0_waysBetween 7 (some .int), Cond.fieldLink RX0 19 "FloorGraph$Drive" "met" "[Z", Cond.instanceMethod yX1_mayLeave, Cond.selects RX1 yX1_mayLeave yX1_mayLeave, Cond.code yX1_mayLeave cX1_mayLeave 2 (some .boolean), Cond.methodLink RX0 78 yX0_waysOn, Cond.instanceMethod yX0_waysOn, Cond.selects RX0 yX0_waysOn yX0_waysOn, Cond.code yX0_waysOn cX0_waysOn 10 (some .int)]
def wsX2_plain : List Cond := .code yX2_plain cX2_plain 6 (some .int) :: ((wsX2_plain_r1 ++ wsX2_plain_r2) ++ wsX20 ++ wsX10 ++ wsX00 ++ (vx_atS RX2 45 "java/lang/IllegalArgumentException" ["java/lang/RuntimeException", "java/lang/Exception"]).filter goodWord)
def wsX2_count : List Cond := .code yX2_count cX2_count 2 (some .int) :: ([.fieldLink RX2 12 "FloorGraph" "floor" "LFloorGraph$Floor;", .fieldLink RX2 118 "FloorGraph" "robots" "I", .fieldLink RX2 158 "FloorGraph" "chargers" "I", .instanceMethod yX1_barredAmong, .initialized RX1, .selects RX1 yX1_barredAmong yX1_barredAmong, .code yX1_barredAmong cX1_barredAmong 5 (some .int), .fieldLink RX1 40 "FloorGraph$Floor" "barred" "[Z"] ++ wsX20 ++ wsX10)
def wsX3_init : List Cond := .code yX3_init cX3_init 2 none :: ([.methodLink RX3 1 objectInit, .instanceMethod objectInit, .code objectInit ⟨#[0xb1]⟩ 1 none, .arrayClass .int, .fieldLink RX3 7 "FloorGraphModel" "level" "[I", .fieldLink RX3 13 "FloorGraphModel" "length" "[I", .fieldLink RX3 16 "FloorGraphModel" "wide" "[I", .arrayClass .boolean, .fieldLink RX3 19 "FloorGraphModel" "both" "[Z", .fieldLink RX3 23 "FloorGraphModel" "shut" "[Z", .fieldLink RX3 26 "FloorGraphModel" "zones" "[I", .fieldLink RX3 29 "FloorGraphModel" "one" "[I", .fieldLink RX3 32 "FloorGraphModel" "two" "[I", .fieldLink RX3 35 "FloorGraphModel" "turning" "[I", .fieldLink RX3 38 "FloorGraphModel" "bars" "[I", .fieldLink RX3 41 "FloorGraphModel" "robotWide" "[I", .fieldLink RX3 44 "FloorGraphModel" "chargerAt" "[I", .fieldLink RX3 47 "FloorGraphModel" "workedAt" "[I", .fieldLink RX3 50 "FloorGraphModel" "reached" "[I", .fieldLink RX3 53 "FloorGraphModel" "steps" "[I", .fieldLink RX3 56 "FloorGraphModel" "on" "[I"] ++ wsX30)
def wsX3_thrown : List Cond := .code yX3_thrown cX3_thrown 1 (some .int) :: ([.fieldLink RX3 59 "FloorGraphModel" "code" "I"] ++ wsX30)
def wsX3_in : List Cond := .code yX3_in cX3_in 3 (some .boolean) :: ([])
def wsX3_isPiece : List Cond := .code yX3_isPiece cX3_isPiece 2 (some .boolean) :: ([.fieldLink RX3 63 "FloorGraphModel" "pieces" "I", .methodLink RX3 66 yX3_in, .static yX3_in, .initialized RX3, .code yX3_in cX3_in 3 (some .boolean)] ++ wsX30)
def wsX3_piece : List Cond := .code yX3_piece cX3_piece 4 (some .int) :: ([.fieldLink RX3 63 "FloorGraphModel" "pieces" "I", .fieldLink RX3 59 "FloorGraphModel" "code" "I", .fieldLink RX3 7 "FloorGraphModel" "level" "[I", .fieldLink RX3 13 "FloorGraphModel" "length" "[I", .fieldLink RX3 16 "FloorGraphModel" "wide" "[I", .fieldLink RX3 19 "FloorGraphModel" "both" "[Z", .fieldLink RX3 70 "FloorGraphModel" "changes" "I", .methodLink RX3 66 yX3_in, .static yX3_in, .initialized RX3, .code yX3_in cX3_in 3 (some .boolean)] ++ wsX30)
def wsX3_link : List Cond := .code yX3_link cX3_link 4 (some .int) :: ([.fieldLink RX3 29 "FloorGraphModel" "one" "[I", .fieldLink RX3 73 "FloorGraphModel" "joins" "I", .fieldLink RX3 32 "FloorGraphModel" "two" "[I", .fieldLink RX3 35 "FloorGraphModel" "turning" "[I", .fieldLink RX3 70 "FloorGraphModel" "changes" "I"] ++ wsX30)
def wsX3_join : List Cond := .code yX3_join cX3_join 7 (some .int) :: ([.fieldLink RX3 7 "FloorGraphModel" "level" "[I", .fieldLink RX3 73 "FloorGraphModel" "joins" "I", .fieldLink RX3 59 "FloorGraphModel" "code" "I", .methodLink RX3 76 yX3_isPiece, .instanceMethod yX3_isPiece, .selects RX3 yX3_isPiece yX3_isPiece, .initialized RX3, .code yX3_isPiece cX3_isPiece 2 (some .boolean), .fieldLink RX3 63 "FloorGraphModel" "pieces" "I", .methodLink RX3 66 yX3_in, .static yX3_in, .code yX3_in cX3_in 3 (some .boolean), .methodLink RX3 80 yX3_link, .instanceMethod yX3_link, .selects RX3 yX3_link yX3_link, .code yX3_link cX3_link 4 (some .int), .fieldLink RX3 29 "FloorGraphModel" "one" "[I", .fieldLink RX3 32 "FloorGraphModel" "two" "[I", .fieldLink RX3 35 "FloorGraphModel" "turning" "[I", .fieldLink RX3 70 "FloorGraphModel" "changes" "I"] ++ wsX30)
def wsX3_lift : List Cond := .code yX3_lift cX3_lift 5 (some .int) :: ([.fieldLink RX3 7 "FloorGraphModel" "level" "[I", .fieldLink RX3 73 "FloorGraphModel" "joins" "I", .fieldLink RX3 59 "FloorGraphModel" "code" "I", .methodLink RX3 76 yX3_isPiece, .instanceMethod yX3_isPiece, .selects RX3 yX3_isPiece yX3_isPiece, .initialized RX3, .code yX3_isPiece cX3_isPiece 2 (some .boolean), .fieldLink RX3 63 "FloorGraphModel" "pieces" "I", .methodLink RX3 66 yX3_in, .static yX3_in, .code yX3_in cX3_in 3 (some .boolean), .methodLink RX3 80 yX3_link, .instanceMethod yX3_link, .selects RX3 yX3_link yX3_link, .code yX3_link cX3_link 4 (some .int), .fieldLink RX3 29 "FloorGraphModel" "one" "[I", .fieldLink RX3 32 "FloorGraphModel" "two" "[I", .fieldLink RX3 35 "FloorGraphModel" "turning" "[I", .fieldLink RX3 70 "FloorGraphModel" "changes" "I"] ++ wsX30)
def wsX3_bits : List Cond := .code yX3_bits cX3_bits 3 (some .int) :: ([])
def wsX3_with : List Cond := .code yX3_with cX3_with 3 (some .int) :: ([])
def wsX3_turn : List Cond := .code yX3_turn cX3_turn 4 (some .int) :: ([.fieldLink RX3 73 "FloorGraphModel" "joins" "I", .fieldLink RX3 59 "FloorGraphModel" "code" "I", .fieldLink RX3 38 "FloorGraphModel" "bars" "[I", .fieldLink RX3 70 "FloorGraphModel" "changes" "I", .methodLink RX3 66 yX3_in, .static yX3_in, .initialized RX3, .code yX3_in cX3_in 3 (some .boolean), .methodLink RX3 84 yX3_with, .static yX3_with, .code yX3_with cX3_with 3 (some .int), .methodLink RX3 88 yX3_bits, .static yX3_bits, .code yX3_bits cX3_bits 3 (some .int)] ++ wsX30)
def wsX3_width : List Cond := .code yX3_width cX3_width 3 none :: ([.fieldLink RX3 59 "FloorGraphModel" "code" "I", .fieldLink RX3 16 "FloorGraphModel" "wide" "[I", .fieldLink RX3 70 "FloorGraphModel" "changes" "I", .methodLink RX3 76 yX3_isPiece, .instanceMethod yX3_isPiece, .selects RX3 yX3_isPiece yX3_isPiece, .initialized RX3, .code yX3_isPiece cX3_isPiece 2 (some .boolean), .fieldLink RX3 63 "FloorGraphModel" "pieces" "I", .methodLink RX3 66 yX3_in, .static yX3_in, .code yX3_in cX3_in 3 (some .boolean)] ++ wsX30)
def wsX3_zone : List Cond := .code yX3_zone cX3_zone 4 (some .int) :: ([.fieldLink RX3 59 "FloorGraphModel" "code" "I", .fieldLink RX3 26 "FloorGraphModel" "zones" "[I", .fieldLink RX3 70 "FloorGraphModel" "changes" "I", .methodLink RX3 76 yX3_isPiece, .instanceMethod yX3_isPiece, .selects RX3 yX3_isPiece yX3_isPiece, .initialized RX3, .code yX3_isPiece cX3_isPiece 2 (some .boolean), .fieldLink RX3 63 "FloorGraphModel" "pieces" "I", .methodLink RX3 66 yX3_in, .static yX3_in, .code yX3_in cX3_in 3 (some .boolean), .methodLink RX3 84 yX3_with, .static yX3_with, .code yX3_with cX3_with 3 (some .int), .methodLink RX3 88 yX3_bits, .static yX3_bits, .code yX3_bits cX3_bits 3 (some .int)] ++ wsX30)
def wsX3_closed : List Cond := .code yX3_closed cX3_closed 5 (some .int) :: ([.fieldLink RX3 59 "FloorGraphModel" "code" "I", .fieldLink RX3 23 "FloorGraphModel" "shut" "[Z", .fieldLink RX3 70 "FloorGraphModel" "changes" "I", .fieldLink RX3 63 "FloorGraphModel" "pieces" "I", .methodLink RX3 76 yX3_isPiece, .instanceMethod yX3_isPiece, .selects RX3 yX3_isPiece yX3_isPiece, .initialized RX3, .code yX3_isPiece cX3_isPiece 2 (some .boolean), .methodLink RX3 66 yX3_in, .static yX3_in, .code yX3_in cX3_in 3 (some .boolean)] ++ wsX30)
def wsX3_robot : List Cond := .code yX3_robot cX3_robot 4 (some .int) :: ([.fieldLink RX3 92 "FloorGraphModel" "robots" "I", .fieldLink RX3 59 "FloorGraphModel" "code" "I", .fieldLink RX3 63 "FloorGraphModel" "pieces" "I", .fieldLink RX3 16 "FloorGraphModel" "wide" "[I", .fieldLink RX3 41 "FloorGraphModel" "robotWide" "[I", .fieldLink RX3 70 "FloorGraphModel" "changes" "I", .methodLink RX3 66 yX3_in, .static yX3_in, .initialized RX3, .code yX3_in cX3_in 3 (some .boolean)] ++ wsX30)
def wsX3_mayEnter : List Cond := .code yX3_mayEnter cX3_mayEnter 5 (some .boolean) :: ([.fieldLink RX3 23 "FloorGraphModel" "shut" "[Z", .fieldLink RX3 26 "FloorGraphModel" "zones" "[I", .fieldLink RX3 16 "FloorGraphModel" "wide" "[I", .fieldLink RX3 41 "FloorGraphModel" "robotWide" "[I", .fieldLink RX3 19 "FloorGraphModel" "both" "[Z"] ++ wsX30)
def wsX3_from : List Cond := .code yX3_from cX3_from 3 (some .int) :: ([.fieldLink RX3 29 "FloorGraphModel" "one" "[I", .fieldLink RX3 32 "FloorGraphModel" "two" "[I"] ++ wsX30)
def wsX3_to : List Cond := .code yX3_to cX3_to 3 (some .int) :: ([.fieldLink RX3 32 "FloorGraphModel" "two" "[I", .fieldLink RX3 29 "FloorGraphModel" "one" "[I"] ++ wsX30)
def wsX3_mayGo : List Cond := .code yX3_mayGo cX3_mayGo 5 (some .boolean) :: ([.fieldLink RX3 38 "FloorGraphModel" "bars" "[I", .methodLink RX3 95 yX3_to, .instanceMethod yX3_to, .selects RX3 yX3_to yX3_to, .initialized RX3, .code yX3_to cX3_to 3 (some .int), .fieldLink RX3 32 "FloorGraphModel" "two" "[I", .fieldLink RX3 29 "FloorGraphModel" "one" "[I", .methodLink RX3 99 yX3_mayEnter, .instanceMethod yX3_mayEnter, .selects RX3 yX3_mayEnter yX3_mayEnter, .code yX3_mayEnter cX3_mayEnter 5 (some .boolean), .fieldLink RX3 23 "FloorGraphModel" "shut" "[Z", .fieldLink RX3 26 "FloorGraphModel" "zones" "[I", .fieldLink RX3 16 "FloorGraphModel" "wide" "[I", .fieldLink RX3 41 "FloorGraphModel" "robotWide" "[I", .fieldLink RX3 19 "FloorGraphModel" "both" "[Z"] ++ wsX30)
def wsX3_through_r1 : List Cond := [Cond.fieldLink RX3 50 "FloorGraphModel" "reached" "[I", Cond.fieldLink RX3 35 "FloorGraphModel" "turning" "[I", Cond.fieldLink RX3 13 "FloorGraphModel" "length" "[I", Cond.methodLink RX3 106 yX3_from, Cond.instanceMethod yX3_from, Cond.selects RX3 yX3_from yX3_from, Cond.initialized RX3, Cond.code yX3_from cX3_from 3 (some .int), Cond.fieldLink RX3 29 "FloorGraphModel" "one" "[I", Cond.fieldLink RX3 32 "FloorGraphModel" "two" "[I", Cond.methodLink RX3 109 yX3_mayGo, Cond.instanceMethod yX3_mayGo, Cond.selects RX3 yX3_mayGo yX3_mayGo, Cond.code yX3_mayGo cX3_mayGo 5 (some .boolean), Cond.fieldLink RX3 38 "FloorGraphModel" "bars" "[I", Cond.methodLink RX3 95 yX3_to, Cond.instanceMethod yX3_to, Cond.selects RX3 yX3_to yX3_to, Cond.code yX3_to cX3_to 3 (some .int), Cond.methodLink RX3 99 yX3_mayEnter, Cond.instanceMethod yX3_mayEnter, Cond.selects RX3 yX3_mayEnter yX3_mayEnter, Cond.code yX3_mayEnter cX3_mayEnter 5 (some .boolean), Cond.fieldLink RX3 23 "FloorGraphModel" "shut" "[Z"]
def wsX3_through_r2 : List Cond := [Cond.fieldLink RX3 26 "FloorGraphModel" "zones" "[I", Cond.fieldLink RX3 16 "FloorGraphModel" "wide" "[I", Cond.fieldLink RX3 41 "FloorGraphModel" "robotWide" "[I", Cond.fieldLink RX3 19 "FloorGraphModel" "both" "[Z"]
def wsX3_through : List Cond := .code yX3_through cX3_through 5 (some .int) :: ((wsX3_through_r1 ++ wsX3_through_r2) ++ wsX30)
def wsX3_lower_r1 : List Cond := [Cond.fieldLink RX3 50 "FloorGraphModel" "reached" "[I", Cond.methodLink RX3 112 yX3_through, Cond.instanceMethod yX3_through, Cond.selects RX3 yX3_through yX3_through, Cond.initialized RX3, Cond.code yX3_through cX3_through 5 (some .int), Cond.fieldLink RX3 35 "FloorGraphModel" "turning" "[I", Cond.fieldLink RX3 13 "FloorGraphModel" "length" "[I", Cond.methodLink RX3 106 yX3_from, Cond.instanceMethod yX3_from, Cond.selects RX3 yX3_from yX3_from, Cond.code yX3_from cX3_from 3 (some .int), Cond.fieldLink RX3 29 "FloorGraphModel" "one" "[I", Cond.fieldLink RX3 32 "FloorGraphModel" "two" "[I", Cond.methodLink RX3 109 yX3_mayGo, Cond.instanceMethod yX3_mayGo, Cond.selects RX3 yX3_mayGo yX3_mayGo, Cond.code yX3_mayGo cX3_mayGo 5 (some .boolean), Cond.fieldLink RX3 38 "FloorGraphModel" "bars" "[I", Cond.methodLink RX3 95 yX3_to, Cond.instanceMethod yX3_to, Cond.selects RX3 yX3_to yX3_to, Cond.code yX3_to cX3_to 3 (some .int), Cond.methodLink RX3 99 yX3_mayEnter]
def wsX3_lower_r2 : List Cond := [Cond.instanceMethod yX3_mayEnter, Cond.selects RX3 yX3_mayEnter yX3_mayEnter, Cond.code yX3_mayEnter cX3_mayEnter 5 (some .boolean), Cond.fieldLink RX3 23 "FloorGraphModel" "shut" "[Z", Cond.fieldLink RX3 26 "FloorGraphModel" "zones" "[I", Cond.fieldLink RX3 16 "FloorGraphModel" "wide" "[I", Cond.fieldLink RX3 41 "FloorGraphModel" "robotWide" "[I", Cond.fieldLink RX3 19 "FloorGraphModel" "both" "[Z"]
def wsX3_lower : List Cond := .code yX3_lower cX3_lower 7 (some .boolean) :: ((wsX3_lower_r1 ++ wsX3_lower_r2) ++ wsX30)
def wsX3_reachAll_r1 : List Cond := [Cond.fieldLink RX3 63 "FloorGraphModel" "pieces" "I", Cond.fieldLink RX3 50 "FloorGraphModel" "reached" "[I", Cond.fieldLink RX3 19 "FloorGraphModel" "both" "[Z", Cond.fieldLink RX3 73 "FloorGraphModel" "joins" "I", Cond.methodLink RX3 102 yX3_lower, Cond.instanceMethod yX3_lower, Cond.selects RX3 yX3_lower yX3_lower, Cond.initialized RX3, Cond.code yX3_lower cX3_lower 7 (some .boolean), Cond.methodLink RX3 112 yX3_through, Cond.instanceMethod yX3_through, Cond.selects RX3 yX3_through yX3_through, Cond.code yX3_through cX3_through 5 (some .int), Cond.fieldLink RX3 35 "FloorGraphModel" "turning" "[I", Cond.fieldLink RX3 13 "FloorGraphModel" "length" "[I", Cond.methodLink RX3 106 yX3_from, Cond.instanceMethod yX3_from, Cond.selects RX3 yX3_from yX3_from, Cond.code yX3_from cX3_from 3 (some .int), Cond.fieldLink RX3 29 "FloorGraphModel" "one" "[I", Cond.fieldLink RX3 32 "FloorGraphModel" "two" "[I", Cond.methodLink RX3 109 yX3_mayGo, Cond.instanceMethod yX3_mayGo, Cond.selects RX3 yX3_mayGo yX3_mayGo]
def wsX3_reachAll_r2 : List Cond := [Cond.code yX3_mayGo cX3_mayGo 5 (some .boolean), Cond.fieldLink RX3 38 "FloorGraphModel" "bars" "[I", Cond.methodLink RX3 95 yX3_to, Cond.instanceMethod yX3_to, Cond.selects RX3 yX3_to yX3_to, Cond.code yX3_to cX3_to 3 (some .int), Cond.methodLink RX3 99 yX3_mayEnter, Cond.instanceMethod yX3_mayEnter, Cond.selects RX3 yX3_mayEnter yX3_mayEnter, Cond.code yX3_mayEnter cX3_mayEnter 5 (some .boolean), Cond.fieldLink RX3 23 "FloorGraphModel" "shut" "[Z", Cond.fieldLink RX3 26 "FloorGraphModel" "zones" "[I", Cond.fieldLink RX3 16 "FloorGraphModel" "wide" "[I", Cond.fieldLink RX3 41 "FloorGraphModel" "robotWide" "[I"]
def wsX3_reachAll : List Cond := .code yX3_reachAll cX3_reachAll 7 none :: ((wsX3_reachAll_r1 ++ wsX3_reachAll_r2) ++ wsX30)
def wsX3_secondsTo_r1 : List Cond := [Cond.fieldLink RX3 73 "FloorGraphModel" "joins" "I", Cond.fieldLink RX3 50 "FloorGraphModel" "reached" "[I", Cond.fieldLink RX3 35 "FloorGraphModel" "turning" "[I", Cond.methodLink RX3 95 yX3_to, Cond.instanceMethod yX3_to, Cond.selects RX3 yX3_to yX3_to, Cond.initialized RX3, Cond.code yX3_to cX3_to 3 (some .int), Cond.fieldLink RX3 32 "FloorGraphModel" "two" "[I", Cond.fieldLink RX3 29 "FloorGraphModel" "one" "[I", Cond.methodLink RX3 106 yX3_from, Cond.instanceMethod yX3_from, Cond.selects RX3 yX3_from yX3_from, Cond.code yX3_from cX3_from 3 (some .int), Cond.methodLink RX3 109 yX3_mayGo, Cond.instanceMethod yX3_mayGo, Cond.selects RX3 yX3_mayGo yX3_mayGo, Cond.code yX3_mayGo cX3_mayGo 5 (some .boolean), Cond.fieldLink RX3 38 "FloorGraphModel" "bars" "[I", Cond.methodLink RX3 99 yX3_mayEnter, Cond.instanceMethod yX3_mayEnter, Cond.selects RX3 yX3_mayEnter yX3_mayEnter, Cond.code yX3_mayEnter cX3_mayEnter 5 (some .boolean), Cond.fieldLink RX3 23 "FloorGraphModel" "shut" "[Z"]
def wsX3_secondsTo_r2 : List Cond := [Cond.fieldLink RX3 26 "FloorGraphModel" "zones" "[I", Cond.fieldLink RX3 16 "FloorGraphModel" "wide" "[I", Cond.fieldLink RX3 41 "FloorGraphModel" "robotWide" "[I", Cond.fieldLink RX3 19 "FloorGraphModel" "both" "[Z"]
def wsX3_secondsTo : List Cond := .code yX3_secondsTo cX3_secondsTo 9 (some .int) :: ((wsX3_secondsTo_r1 ++ wsX3_secondsTo_r2) ++ wsX30)
def wsX3_lastEnd_r1 : List Cond := [Cond.fieldLink RX3 73 "FloorGraphModel" "joins" "I", Cond.fieldLink RX3 50 "FloorGraphModel" "reached" "[I", Cond.fieldLink RX3 35 "FloorGraphModel" "turning" "[I", Cond.methodLink RX3 95 yX3_to, Cond.instanceMethod yX3_to, Cond.selects RX3 yX3_to yX3_to, Cond.initialized RX3, Cond.code yX3_to cX3_to 3 (some .int), Cond.fieldLink RX3 32 "FloorGraphModel" "two" "[I", Cond.fieldLink RX3 29 "FloorGraphModel" "one" "[I", Cond.methodLink RX3 106 yX3_from, Cond.instanceMethod yX3_from, Cond.selects RX3 yX3_from yX3_from, Cond.code yX3_from cX3_from 3 (some .int), Cond.methodLink RX3 109 yX3_mayGo, Cond.instanceMethod yX3_mayGo, Cond.selects RX3 yX3_mayGo yX3_mayGo, Cond.code yX3_mayGo cX3_mayGo 5 (some .boolean), Cond.fieldLink RX3 38 "FloorGraphModel" "bars" "[I", Cond.methodLink RX3 99 yX3_mayEnter, Cond.instanceMethod yX3_mayEnter, Cond.selects RX3 yX3_mayEnter yX3_mayEnter, Cond.code yX3_mayEnter cX3_mayEnter 5 (some .boolean), Cond.fieldLink RX3 23 "FloorGraphModel" "shut" "[Z"]
def wsX3_lastEnd_r2 : List Cond := [Cond.fieldLink RX3 26 "FloorGraphModel" "zones" "[I", Cond.fieldLink RX3 16 "FloorGraphModel" "wide" "[I", Cond.fieldLink RX3 41 "FloorGraphModel" "robotWide" "[I", Cond.fieldLink RX3 19 "FloorGraphModel" "both" "[Z"]
def wsX3_lastEnd : List Cond := .code yX3_lastEnd cX3_lastEnd 7 (some .int) :: ((wsX3_lastEnd_r1 ++ wsX3_lastEnd_r2) ++ wsX30)
def wsX3_before_r1 : List Cond := [Cond.fieldLink RX3 73 "FloorGraphModel" "joins" "I", Cond.fieldLink RX3 50 "FloorGraphModel" "reached" "[I", Cond.methodLink RX3 95 yX3_to, Cond.instanceMethod yX3_to, Cond.selects RX3 yX3_to yX3_to, Cond.initialized RX3, Cond.code yX3_to cX3_to 3 (some .int), Cond.fieldLink RX3 32 "FloorGraphModel" "two" "[I", Cond.fieldLink RX3 29 "FloorGraphModel" "one" "[I", Cond.methodLink RX3 112 yX3_through, Cond.instanceMethod yX3_through, Cond.selects RX3 yX3_through yX3_through, Cond.code yX3_through cX3_through 5 (some .int), Cond.fieldLink RX3 35 "FloorGraphModel" "turning" "[I", Cond.fieldLink RX3 13 "FloorGraphModel" "length" "[I", Cond.methodLink RX3 106 yX3_from, Cond.instanceMethod yX3_from, Cond.selects RX3 yX3_from yX3_from, Cond.code yX3_from cX3_from 3 (some .int), Cond.methodLink RX3 109 yX3_mayGo, Cond.instanceMethod yX3_mayGo, Cond.selects RX3 yX3_mayGo yX3_mayGo, Cond.code yX3_mayGo cX3_mayGo 5 (some .boolean), Cond.fieldLink RX3 38 "FloorGraphModel" "bars" "[I"]
def wsX3_before_r2 : List Cond := [Cond.methodLink RX3 99 yX3_mayEnter, Cond.instanceMethod yX3_mayEnter, Cond.selects RX3 yX3_mayEnter yX3_mayEnter, Cond.code yX3_mayEnter cX3_mayEnter 5 (some .boolean), Cond.fieldLink RX3 23 "FloorGraphModel" "shut" "[Z", Cond.fieldLink RX3 26 "FloorGraphModel" "zones" "[I", Cond.fieldLink RX3 16 "FloorGraphModel" "wide" "[I", Cond.fieldLink RX3 41 "FloorGraphModel" "robotWide" "[I", Cond.fieldLink RX3 19 "FloorGraphModel" "both" "[Z"]
def wsX3_before : List Cond := .code yX3_before cX3_before 6 (some .int) :: ((wsX3_before_r1 ++ wsX3_before_r2) ++ wsX30)
def wsX3_isDrive : List Cond := .code yX3_isDrive cX3_isDrive 5 (some .boolean) :: ([.fieldLink RX3 92 "FloorGraphModel" "robots" "I", .methodLink RX3 66 yX3_in, .static yX3_in, .initialized RX3, .code yX3_in cX3_in 3 (some .boolean), .methodLink RX3 76 yX3_isPiece, .instanceMethod yX3_isPiece, .selects RX3 yX3_isPiece yX3_isPiece, .code yX3_isPiece cX3_isPiece 2 (some .boolean), .fieldLink RX3 63 "FloorGraphModel" "pieces" "I"] ++ wsX30)
def wsX3_least_r1 : List Cond := [Cond.methodLink RX3 116 yX3_reachAll, Cond.instanceMethod yX3_reachAll, Cond.selects RX3 yX3_reachAll yX3_reachAll, Cond.initialized RX3, Cond.code yX3_reachAll cX3_reachAll 7 none, Cond.fieldLink RX3 63 "FloorGraphModel" "pieces" "I", Cond.fieldLink RX3 50 "FloorGraphModel" "reached" "[I", Cond.fieldLink RX3 19 "FloorGraphModel" "both" "[Z", Cond.fieldLink RX3 73 "FloorGraphModel" "joins" "I", Cond.methodLink RX3 102 yX3_lower, Cond.instanceMethod yX3_lower, Cond.selects RX3 yX3_lower yX3_lower, Cond.code yX3_lower cX3_lower 7 (some .boolean), Cond.methodLink RX3 112 yX3_through, Cond.instanceMethod yX3_through, Cond.selects RX3 yX3_through yX3_through, Cond.code yX3_through cX3_through 5 (some .int), Cond.fieldLink RX3 35 "FloorGraphModel" "turning" "[I", Cond.fieldLink RX3 13 "FloorGraphModel" "length" "[I", Cond.methodLink RX3 106 yX3_from, Cond.instanceMethod yX3_from, Cond.selects RX3 yX3_from yX3_from, Cond.code yX3_from cX3_from 3 (some .int), Cond.fieldLink RX3 29 "FloorGraphModel" "one" "[I"]
def wsX3_least_r2 : List Cond := [Cond.fieldLink RX3 32 "FloorGraphModel" "two" "[I", Cond.methodLink RX3 109 yX3_mayGo, Cond.instanceMethod yX3_mayGo, Cond.selects RX3 yX3_mayGo yX3_mayGo, Cond.code yX3_mayGo cX3_mayGo 5 (some .boolean), Cond.fieldLink RX3 38 "FloorGraphModel" "bars" "[I", Cond.methodLink RX3 95 yX3_to, Cond.instanceMethod yX3_to, Cond.selects RX3 yX3_to yX3_to, Cond.code yX3_to cX3_to 3 (some .int), Cond.methodLink RX3 99 yX3_mayEnter, Cond.instanceMethod yX3_mayEnter, Cond.selects RX3 yX3_mayEnter yX3_mayEnter, Cond.code yX3_mayEnter cX3_mayEnter 5 (some .boolean), Cond.fieldLink RX3 23 "FloorGraphModel" "shut" "[Z", Cond.fieldLink RX3 26 "FloorGraphModel" "zones" "[I", Cond.fieldLink RX3 16 "FloorGraphModel" "wide" "[I", Cond.fieldLink RX3 41 "FloorGraphModel" "robotWide" "[I", Cond.methodLink RX3 120 yX3_secondsTo, Cond.instanceMethod yX3_secondsTo, Cond.selects RX3 yX3_secondsTo yX3_secondsTo, Cond.code yX3_secondsTo cX3_secondsTo 9 (some .int)]
def wsX3_least : List Cond := .code yX3_least cX3_least 5 (some .int) :: ((wsX3_least_r1 ++ wsX3_least_r2) ++ wsX30)
def wsX3_way_r1 : List Cond := [Cond.fieldLink RX3 59 "FloorGraphModel" "code" "I", Cond.fieldLink RX3 129 "FloorGraphModel" "stepCount" "I", Cond.fieldLink RX3 53 "FloorGraphModel" "steps" "[I", Cond.fieldLink RX3 50 "FloorGraphModel" "reached" "[I", Cond.methodLink RX3 123 yX3_isDrive, Cond.instanceMethod yX3_isDrive, Cond.selects RX3 yX3_isDrive yX3_isDrive, Cond.initialized RX3, Cond.code yX3_isDrive cX3_isDrive 5 (some .boolean), Cond.fieldLink RX3 92 "FloorGraphModel" "robots" "I", Cond.methodLink RX3 66 yX3_in, Cond.static yX3_in, Cond.code yX3_in cX3_in 3 (some .boolean), Cond.methodLink RX3 76 yX3_isPiece, Cond.instanceMethod yX3_isPiece, Cond.selects RX3 yX3_isPiece yX3_isPiece, Cond.code yX3_isPiece cX3_isPiece 2 (some .boolean), Cond.fieldLink RX3 63 "FloorGraphModel" "pieces" "I", Cond.methodLink RX3 126 yX3_least, Cond.instanceMethod yX3_least, Cond.selects RX3 yX3_least yX3_least, Cond.code yX3_least cX3_least 5 (some .int), Cond.methodLink RX3 116 yX3_reachAll, Cond.instanceMethod yX3_reachAll]
def wsX3_way_r2 : List Cond := [Cond.selects RX3 yX3_reachAll yX3_reachAll, Cond.code yX3_reachAll cX3_reachAll 7 none, Cond.fieldLink RX3 19 "FloorGraphModel" "both" "[Z", Cond.fieldLink RX3 73 "FloorGraphModel" "joins" "I", Cond.methodLink RX3 102 yX3_lower, Cond.instanceMethod yX3_lower, Cond.selects RX3 yX3_lower yX3_lower, Cond.code yX3_lower cX3_lower 7 (some .boolean), Cond.methodLink RX3 112 yX3_through, Cond.instanceMethod yX3_through, Cond.selects RX3 yX3_through yX3_through, Cond.code yX3_through cX3_through 5 (some .int), Cond.fieldLink RX3 35 "FloorGraphModel" "turning" "[I", Cond.fieldLink RX3 13 "FloorGraphModel" "length" "[I", Cond.methodLink RX3 106 yX3_from, Cond.instanceMethod yX3_from, Cond.selects RX3 yX3_from yX3_from, Cond.code yX3_from cX3_from 3 (some .int), Cond.fieldLink RX3 29 "FloorGraphModel" "one" "[I", Cond.fieldLink RX3 32 "FloorGraphModel" "two" "[I", Cond.methodLink RX3 109 yX3_mayGo, Cond.instanceMethod yX3_mayGo, Cond.selects RX3 yX3_mayGo yX3_mayGo, Cond.code yX3_mayGo cX3_mayGo 5 (some .boolean)]
def wsX3_way_r3 : List Cond := [Cond.fieldLink RX3 38 "FloorGraphModel" "bars" "[I", Cond.methodLink RX3 95 yX3_to, Cond.instanceMethod yX3_to, Cond.selects RX3 yX3_to yX3_to, Cond.code yX3_to cX3_to 3 (some .int), Cond.methodLink RX3 99 yX3_mayEnter, Cond.instanceMethod yX3_mayEnter, Cond.selects RX3 yX3_mayEnter yX3_mayEnter, Cond.code yX3_mayEnter cX3_mayEnter 5 (some .boolean), Cond.fieldLink RX3 23 "FloorGraphModel" "shut" "[Z", Cond.fieldLink RX3 26 "FloorGraphModel" "zones" "[I", Cond.fieldLink RX3 16 "FloorGraphModel" "wide" "[I", Cond.fieldLink RX3 41 "FloorGraphModel" "robotWide" "[I", Cond.methodLink RX3 120 yX3_secondsTo, Cond.instanceMethod yX3_secondsTo, Cond.selects RX3 yX3_secondsTo yX3_secondsTo, Cond.code yX3_secondsTo cX3_secondsTo 9 (some .int), Cond.methodLink RX3 132 yX3_lastEnd, Cond.instanceMethod yX3_lastEnd, Cond.selects RX3 yX3_lastEnd yX3_lastEnd, Cond.code yX3_lastEnd cX3_lastEnd 7 (some .int), Cond.methodLink RX3 135 yX3_before, Cond.instanceMethod yX3_before, Cond.selects RX3 yX3_before yX3_before]
def wsX3_way_r4 : List Cond := [Cond.code yX3_before cX3_before 6 (some .int)]
def wsX3_way : List Cond := .code yX3_way cX3_way 7 (some .int) :: ((wsX3_way_r1 ++ (wsX3_way_r2 ++ (wsX3_way_r3 ++ wsX3_way_r4))) ++ wsX30)
def wsX3_step : List Cond := .code yX3_step cX3_step 2 (some .int) :: ([.fieldLink RX3 59 "FloorGraphModel" "code" "I", .fieldLink RX3 129 "FloorGraphModel" "stepCount" "I", .fieldLink RX3 53 "FloorGraphModel" "steps" "[I", .methodLink RX3 66 yX3_in, .static yX3_in, .initialized RX3, .code yX3_in cX3_in 3 (some .boolean)] ++ wsX30)
def wsX3_same_r1 : List Cond := [Cond.fieldLink RX3 59 "FloorGraphModel" "code" "I", Cond.methodLink RX3 123 yX3_isDrive, Cond.instanceMethod yX3_isDrive, Cond.selects RX3 yX3_isDrive yX3_isDrive, Cond.initialized RX3, Cond.code yX3_isDrive cX3_isDrive 5 (some .boolean), Cond.fieldLink RX3 92 "FloorGraphModel" "robots" "I", Cond.methodLink RX3 66 yX3_in, Cond.static yX3_in, Cond.code yX3_in cX3_in 3 (some .boolean), Cond.methodLink RX3 76 yX3_isPiece, Cond.instanceMethod yX3_isPiece, Cond.selects RX3 yX3_isPiece yX3_isPiece, Cond.code yX3_isPiece cX3_isPiece 2 (some .boolean), Cond.fieldLink RX3 63 "FloorGraphModel" "pieces" "I", Cond.methodLink RX3 126 yX3_least, Cond.instanceMethod yX3_least, Cond.selects RX3 yX3_least yX3_least, Cond.code yX3_least cX3_least 5 (some .int), Cond.methodLink RX3 116 yX3_reachAll, Cond.instanceMethod yX3_reachAll, Cond.selects RX3 yX3_reachAll yX3_reachAll, Cond.code yX3_reachAll cX3_reachAll 7 none, Cond.fieldLink RX3 50 "FloorGraphModel" "reached" "[I"]
def wsX3_same_r2 : List Cond := [Cond.fieldLink RX3 19 "FloorGraphModel" "both" "[Z", Cond.fieldLink RX3 73 "FloorGraphModel" "joins" "I", Cond.methodLink RX3 102 yX3_lower, Cond.instanceMethod yX3_lower, Cond.selects RX3 yX3_lower yX3_lower, Cond.code yX3_lower cX3_lower 7 (some .boolean), Cond.methodLink RX3 112 yX3_through, Cond.instanceMethod yX3_through, Cond.selects RX3 yX3_through yX3_through, Cond.code yX3_through cX3_through 5 (some .int), Cond.fieldLink RX3 35 "FloorGraphModel" "turning" "[I", Cond.fieldLink RX3 13 "FloorGraphModel" "length" "[I", Cond.methodLink RX3 106 yX3_from, Cond.instanceMethod yX3_from, Cond.selects RX3 yX3_from yX3_from, Cond.code yX3_from cX3_from 3 (some .int), Cond.fieldLink RX3 29 "FloorGraphModel" "one" "[I", Cond.fieldLink RX3 32 "FloorGraphModel" "two" "[I", Cond.methodLink RX3 109 yX3_mayGo, Cond.instanceMethod yX3_mayGo, Cond.selects RX3 yX3_mayGo yX3_mayGo, Cond.code yX3_mayGo cX3_mayGo 5 (some .boolean), Cond.fieldLink RX3 38 "FloorGraphModel" "bars" "[I", Cond.methodLink RX3 95 yX3_to]
def wsX3_same_r3 : List Cond := [Cond.instanceMethod yX3_to, Cond.selects RX3 yX3_to yX3_to, Cond.code yX3_to cX3_to 3 (some .int), Cond.methodLink RX3 99 yX3_mayEnter, Cond.instanceMethod yX3_mayEnter, Cond.selects RX3 yX3_mayEnter yX3_mayEnter, Cond.code yX3_mayEnter cX3_mayEnter 5 (some .boolean), Cond.fieldLink RX3 23 "FloorGraphModel" "shut" "[Z", Cond.fieldLink RX3 26 "FloorGraphModel" "zones" "[I", Cond.fieldLink RX3 16 "FloorGraphModel" "wide" "[I", Cond.fieldLink RX3 41 "FloorGraphModel" "robotWide" "[I", Cond.methodLink RX3 120 yX3_secondsTo, Cond.instanceMethod yX3_secondsTo, Cond.selects RX3 yX3_secondsTo yX3_secondsTo, Cond.code yX3_secondsTo cX3_secondsTo 9 (some .int)]
def wsX3_same : List Cond := .code yX3_same cX3_same 5 (some .boolean) :: ((wsX3_same_r1 ++ (wsX3_same_r2 ++ wsX3_same_r3)) ++ wsX30)
def wsX3_charger : List Cond := .code yX3_charger cX3_charger 3 (some .int) :: ([.fieldLink RX3 59 "FloorGraphModel" "code" "I", .fieldLink RX3 138 "FloorGraphModel" "chargers" "I", .fieldLink RX3 44 "FloorGraphModel" "chargerAt" "[I", .fieldLink RX3 70 "FloorGraphModel" "changes" "I", .methodLink RX3 76 yX3_isPiece, .instanceMethod yX3_isPiece, .selects RX3 yX3_isPiece yX3_isPiece, .initialized RX3, .code yX3_isPiece cX3_isPiece 2 (some .boolean), .fieldLink RX3 63 "FloorGraphModel" "pieces" "I", .methodLink RX3 66 yX3_in, .static yX3_in, .code yX3_in cX3_in 3 (some .boolean)] ++ wsX30)
def wsX3_nearest_r1 : List Cond := [Cond.fieldLink RX3 59 "FloorGraphModel" "code" "I", Cond.fieldLink RX3 63 "FloorGraphModel" "pieces" "I", Cond.fieldLink RX3 138 "FloorGraphModel" "chargers" "I", Cond.fieldLink RX3 44 "FloorGraphModel" "chargerAt" "[I", Cond.methodLink RX3 123 yX3_isDrive, Cond.instanceMethod yX3_isDrive, Cond.selects RX3 yX3_isDrive yX3_isDrive, Cond.initialized RX3, Cond.code yX3_isDrive cX3_isDrive 5 (some .boolean), Cond.fieldLink RX3 92 "FloorGraphModel" "robots" "I", Cond.methodLink RX3 66 yX3_in, Cond.static yX3_in, Cond.code yX3_in cX3_in 3 (some .boolean), Cond.methodLink RX3 76 yX3_isPiece, Cond.instanceMethod yX3_isPiece, Cond.selects RX3 yX3_isPiece yX3_isPiece, Cond.code yX3_isPiece cX3_isPiece 2 (some .boolean), Cond.methodLink RX3 116 yX3_reachAll, Cond.instanceMethod yX3_reachAll, Cond.selects RX3 yX3_reachAll yX3_reachAll, Cond.code yX3_reachAll cX3_reachAll 7 none, Cond.fieldLink RX3 50 "FloorGraphModel" "reached" "[I", Cond.fieldLink RX3 19 "FloorGraphModel" "both" "[Z", Cond.fieldLink RX3 73 "FloorGraphModel" "joins" "I"]
def wsX3_nearest_r2 : List Cond := [Cond.methodLink RX3 102 yX3_lower, Cond.instanceMethod yX3_lower, Cond.selects RX3 yX3_lower yX3_lower, Cond.code yX3_lower cX3_lower 7 (some .boolean), Cond.methodLink RX3 112 yX3_through, Cond.instanceMethod yX3_through, Cond.selects RX3 yX3_through yX3_through, Cond.code yX3_through cX3_through 5 (some .int), Cond.fieldLink RX3 35 "FloorGraphModel" "turning" "[I", Cond.fieldLink RX3 13 "FloorGraphModel" "length" "[I", Cond.methodLink RX3 106 yX3_from, Cond.instanceMethod yX3_from, Cond.selects RX3 yX3_from yX3_from, Cond.code yX3_from cX3_from 3 (some .int), Cond.fieldLink RX3 29 "FloorGraphModel" "one" "[I", Cond.fieldLink RX3 32 "FloorGraphModel" "two" "[I", Cond.methodLink RX3 109 yX3_mayGo, Cond.instanceMethod yX3_mayGo, Cond.selects RX3 yX3_mayGo yX3_mayGo, Cond.code yX3_mayGo cX3_mayGo 5 (some .boolean), Cond.fieldLink RX3 38 "FloorGraphModel" "bars" "[I", Cond.methodLink RX3 95 yX3_to, Cond.instanceMethod yX3_to, Cond.selects RX3 yX3_to yX3_to]
def wsX3_nearest_r3 : List Cond := [Cond.code yX3_to cX3_to 3 (some .int), Cond.methodLink RX3 99 yX3_mayEnter, Cond.instanceMethod yX3_mayEnter, Cond.selects RX3 yX3_mayEnter yX3_mayEnter, Cond.code yX3_mayEnter cX3_mayEnter 5 (some .boolean), Cond.fieldLink RX3 23 "FloorGraphModel" "shut" "[Z", Cond.fieldLink RX3 26 "FloorGraphModel" "zones" "[I", Cond.fieldLink RX3 16 "FloorGraphModel" "wide" "[I", Cond.fieldLink RX3 41 "FloorGraphModel" "robotWide" "[I", Cond.methodLink RX3 120 yX3_secondsTo, Cond.instanceMethod yX3_secondsTo, Cond.selects RX3 yX3_secondsTo yX3_secondsTo, Cond.code yX3_secondsTo cX3_secondsTo 9 (some .int)]
def wsX3_nearest : List Cond := .code yX3_nearest cX3_nearest 9 (some .int) :: ((wsX3_nearest_r1 ++ (wsX3_nearest_r2 ++ wsX3_nearest_r3)) ++ wsX30)
def wsX3_table_r1 : List Cond := [Cond.fieldLink RX3 92 "FloorGraphModel" "robots" "I", Cond.fieldLink RX3 138 "FloorGraphModel" "chargers" "I", Cond.fieldLink RX3 59 "FloorGraphModel" "code" "I", Cond.fieldLink RX3 47 "FloorGraphModel" "workedAt" "[I", Cond.fieldLink RX3 70 "FloorGraphModel" "changes" "I", Cond.fieldLink RX3 141 "FloorGraphModel" "worked" "I", Cond.fieldLink RX3 44 "FloorGraphModel" "chargerAt" "[I", Cond.methodLink RX3 66 yX3_in, Cond.static yX3_in, Cond.initialized RX3, Cond.code yX3_in cX3_in 3 (some .boolean), Cond.methodLink RX3 126 yX3_least, Cond.instanceMethod yX3_least, Cond.selects RX3 yX3_least yX3_least, Cond.code yX3_least cX3_least 5 (some .int), Cond.methodLink RX3 116 yX3_reachAll, Cond.instanceMethod yX3_reachAll, Cond.selects RX3 yX3_reachAll yX3_reachAll, Cond.code yX3_reachAll cX3_reachAll 7 none, Cond.fieldLink RX3 63 "FloorGraphModel" "pieces" "I", Cond.fieldLink RX3 50 "FloorGraphModel" "reached" "[I", Cond.fieldLink RX3 19 "FloorGraphModel" "both" "[Z", Cond.fieldLink RX3 73 "FloorGraphModel" "joins" "I", Cond.methodLink RX3 102 yX3_lower]
def wsX3_table_r2 : List Cond := [Cond.instanceMethod yX3_lower, Cond.selects RX3 yX3_lower yX3_lower, Cond.code yX3_lower cX3_lower 7 (some .boolean), Cond.methodLink RX3 112 yX3_through, Cond.instanceMethod yX3_through, Cond.selects RX3 yX3_through yX3_through, Cond.code yX3_through cX3_through 5 (some .int), Cond.fieldLink RX3 35 "FloorGraphModel" "turning" "[I", Cond.fieldLink RX3 13 "FloorGraphModel" "length" "[I", Cond.methodLink RX3 106 yX3_from, Cond.instanceMethod yX3_from, Cond.selects RX3 yX3_from yX3_from, Cond.code yX3_from cX3_from 3 (some .int), Cond.fieldLink RX3 29 "FloorGraphModel" "one" "[I", Cond.fieldLink RX3 32 "FloorGraphModel" "two" "[I", Cond.methodLink RX3 109 yX3_mayGo, Cond.instanceMethod yX3_mayGo, Cond.selects RX3 yX3_mayGo yX3_mayGo, Cond.code yX3_mayGo cX3_mayGo 5 (some .boolean), Cond.fieldLink RX3 38 "FloorGraphModel" "bars" "[I", Cond.methodLink RX3 95 yX3_to, Cond.instanceMethod yX3_to, Cond.selects RX3 yX3_to yX3_to, Cond.code yX3_to cX3_to 3 (some .int)]
def wsX3_table_r3 : List Cond := [Cond.methodLink RX3 99 yX3_mayEnter, Cond.instanceMethod yX3_mayEnter, Cond.selects RX3 yX3_mayEnter yX3_mayEnter, Cond.code yX3_mayEnter cX3_mayEnter 5 (some .boolean), Cond.fieldLink RX3 23 "FloorGraphModel" "shut" "[Z", Cond.fieldLink RX3 26 "FloorGraphModel" "zones" "[I", Cond.fieldLink RX3 16 "FloorGraphModel" "wide" "[I", Cond.fieldLink RX3 41 "FloorGraphModel" "robotWide" "[I", Cond.methodLink RX3 120 yX3_secondsTo, Cond.instanceMethod yX3_secondsTo, Cond.selects RX3 yX3_secondsTo yX3_secondsTo, Cond.code yX3_secondsTo cX3_secondsTo 9 (some .int)]
def wsX3_table : List Cond := .code yX3_table cX3_table 3 (some .int) :: ((wsX3_table_r1 ++ (wsX3_table_r2 ++ wsX3_table_r3)) ++ wsX30)
def wsX3_rows : List Cond := .code yX3_rows cX3_rows 1 (some .int) :: ([.fieldLink RX3 59 "FloorGraphModel" "code" "I", .fieldLink RX3 141 "FloorGraphModel" "worked" "I"] ++ wsX30)
def wsX3_maySet_r1 : List Cond := [Cond.fieldLink RX3 19 "FloorGraphModel" "both" "[Z", Cond.fieldLink RX3 56 "FloorGraphModel" "on" "[I", Cond.methodLink RX3 109 yX3_mayGo, Cond.instanceMethod yX3_mayGo, Cond.selects RX3 yX3_mayGo yX3_mayGo, Cond.initialized RX3, Cond.code yX3_mayGo cX3_mayGo 5 (some .boolean), Cond.fieldLink RX3 38 "FloorGraphModel" "bars" "[I", Cond.methodLink RX3 95 yX3_to, Cond.instanceMethod yX3_to, Cond.selects RX3 yX3_to yX3_to, Cond.code yX3_to cX3_to 3 (some .int), Cond.fieldLink RX3 32 "FloorGraphModel" "two" "[I", Cond.fieldLink RX3 29 "FloorGraphModel" "one" "[I", Cond.methodLink RX3 99 yX3_mayEnter, Cond.instanceMethod yX3_mayEnter, Cond.selects RX3 yX3_mayEnter yX3_mayEnter, Cond.code yX3_mayEnter cX3_mayEnter 5 (some .boolean), Cond.fieldLink RX3 23 "FloorGraphModel" "shut" "[Z", Cond.fieldLink RX3 26 "FloorGraphModel" "zones" "[I", Cond.fieldLink RX3 16 "FloorGraphModel" "wide" "[I", Cond.fieldLink RX3 41 "FloorGraphModel" "robotWide" "[I", Cond.methodLink RX3 106 yX3_from, Cond.instanceMethod yX3_from]
def wsX3_maySet_r2 : List Cond := [Cond.selects RX3 yX3_from yX3_from, Cond.code yX3_from cX3_from 3 (some .int)]
def wsX3_maySet : List Cond := .code yX3_maySet cX3_maySet 13 (some .boolean) :: ((wsX3_maySet_r1 ++ wsX3_maySet_r2) ++ wsX30)
def wsX3_plain_r1 : List Cond := [Cond.fieldLink RX3 59 "FloorGraphModel" "code" "I", Cond.fieldLink RX3 56 "FloorGraphModel" "on" "[I", Cond.fieldLink RX3 73 "FloorGraphModel" "joins" "I", Cond.methodLink RX3 123 yX3_isDrive, Cond.instanceMethod yX3_isDrive, Cond.selects RX3 yX3_isDrive yX3_isDrive, Cond.initialized RX3, Cond.code yX3_isDrive cX3_isDrive 5 (some .boolean), Cond.fieldLink RX3 92 "FloorGraphModel" "robots" "I", Cond.methodLink RX3 66 yX3_in, Cond.static yX3_in, Cond.code yX3_in cX3_in 3 (some .boolean), Cond.methodLink RX3 76 yX3_isPiece, Cond.instanceMethod yX3_isPiece, Cond.selects RX3 yX3_isPiece yX3_isPiece, Cond.code yX3_isPiece cX3_isPiece 2 (some .boolean), Cond.fieldLink RX3 63 "FloorGraphModel" "pieces" "I", Cond.methodLink RX3 144 yX3_maySet, Cond.instanceMethod yX3_maySet, Cond.selects RX3 yX3_maySet yX3_maySet, Cond.code yX3_maySet cX3_maySet 13 (some .boolean), Cond.fieldLink RX3 19 "FloorGraphModel" "both" "[Z", Cond.methodLink RX3 109 yX3_mayGo, Cond.instanceMethod yX3_mayGo]
def wsX3_plain_r2 : List Cond := [Cond.selects RX3 yX3_mayGo yX3_mayGo, Cond.code yX3_mayGo cX3_mayGo 5 (some .boolean), Cond.fieldLink RX3 38 "FloorGraphModel" "bars" "[I", Cond.methodLink RX3 95 yX3_to, Cond.instanceMethod yX3_to, Cond.selects RX3 yX3_to yX3_to, Cond.code yX3_to cX3_to 3 (some .int), Cond.fieldLink RX3 32 "FloorGraphModel" "two" "[I", Cond.fieldLink RX3 29 "FloorGraphModel" "one" "[I", Cond.methodLink RX3 99 yX3_mayEnter, Cond.instanceMethod yX3_mayEnter, Cond.selects RX3 yX3_mayEnter yX3_mayEnter, Cond.code yX3_mayEnter cX3_mayEnter 5 (some .boolean), Cond.fieldLink RX3 23 "FloorGraphModel" "shut" "[Z", Cond.fieldLink RX3 26 "FloorGraphModel" "zones" "[I", Cond.fieldLink RX3 16 "FloorGraphModel" "wide" "[I", Cond.fieldLink RX3 41 "FloorGraphModel" "robotWide" "[I", Cond.methodLink RX3 106 yX3_from, Cond.instanceMethod yX3_from, Cond.selects RX3 yX3_from yX3_from, Cond.code yX3_from cX3_from 3 (some .int)]
def wsX3_plain : List Cond := .code yX3_plain cX3_plain 9 (some .int) :: ((wsX3_plain_r1 ++ wsX3_plain_r2) ++ wsX30)
def wsX3_count : List Cond := .code yX3_count cX3_count 4 (some .int) :: ([.fieldLink RX3 59 "FloorGraphModel" "code" "I", .fieldLink RX3 63 "FloorGraphModel" "pieces" "I", .fieldLink RX3 73 "FloorGraphModel" "joins" "I", .fieldLink RX3 92 "FloorGraphModel" "robots" "I", .fieldLink RX3 138 "FloorGraphModel" "chargers" "I", .fieldLink RX3 38 "FloorGraphModel" "bars" "[I", .methodLink RX3 88 yX3_bits, .static yX3_bits, .initialized RX3, .code yX3_bits cX3_bits 3 (some .int)] ++ wsX30)
def wsJx00060_init_a7421 : List Cond := .code yJx00060_init_a7421 cJx00060_init_a7421 2 none :: ([])
def wsL_piece : List Cond := .codeWith yL_piece cL_piece 6 (some .int) [(0, 12, 15, 13), (0, 12, 19, 15)] :: ([.classLink RL 13 "java/lang/IllegalArgumentException", .classLink RL 15 "java/lang/UnsupportedOperationException", .methodLink RL 7 yX2_piece, .instanceMethod yX2_piece, .selects RX2 yX2_piece yX2_piece, .initialized RX2, .code yX2_piece cX2_piece 4 (some .int), .classLink RX2 41 "java/lang/IllegalArgumentException", .initialized "java/lang/IllegalArgumentException", .classLink RX2 54 "java/lang/UnsupportedOperationException", .initialized "java/lang/UnsupportedOperationException", .fieldLink RX2 12 "FloorGraph" "floor" "LFloorGraph$Floor;", .fieldLink RX2 59 "FloorGraph" "changes" "I", .instanceMethod yX1_addPiece, .initialized RX1, .selects RX1 yX1_addPiece yX1_addPiece, .code yX1_addPiece cX1_addPiece 5 (some .int), .fieldLink RX1 51 "FloorGraph$Floor" "pieces" "I", .fieldLink RX1 9 "FloorGraph$Floor" "levels" "[I", .fieldLink RX1 15 "FloorGraph$Floor" "lengths" "[I", .fieldLink RX1 18 "FloorGraph$Floor" "widths" "[I", .fieldLink RX1 21 "FloorGraph$Floor" "twoWay" "[Z"] ++ wsX20 ++ wsX10 ++ (vx_atS RX2 45 "java/lang/IllegalArgumentException" ["java/lang/RuntimeException", "java/lang/Exception"]).filter goodWord ++ (vx_atS RX2 58 "java/lang/UnsupportedOperationException" ["java/lang/RuntimeException", "java/lang/Exception"]).filter goodWord)
def wsL_join_r1 : List Cond := [Cond.classLink RL 13 "java/lang/IllegalArgumentException", Cond.classLink RL 15 "java/lang/UnsupportedOperationException", Cond.methodLink RL 17 yX2_join, Cond.instanceMethod yX2_join, Cond.selects RX2 yX2_join yX2_join, Cond.initialized RX2, Cond.code yX2_join cX2_join 6 (some .int), Cond.classLink RX2 41 "java/lang/IllegalArgumentException", Cond.initialized "java/lang/IllegalArgumentException", Cond.fieldLink RX2 12 "FloorGraph" "floor" "LFloorGraph$Floor;", Cond.methodLink RX2 66 yX2_needPiece, Cond.instanceMethod yX2_needPiece, Cond.selects RX2 yX2_needPiece yX2_needPiece, Cond.code yX2_needPiece cX2_needPiece 2 none, Cond.methodLink RX2 70 yX2_needZeroOrOne, Cond.static yX2_needZeroOrOne, Cond.code yX2_needZeroOrOne cX2_needZeroOrOne 1 none, Cond.methodLink RX2 80 yX2_joinEnds, Cond.instanceMethod yX2_joinEnds, Cond.selects RX2 yX2_joinEnds yX2_joinEnds, Cond.code yX2_joinEnds cX2_joinEnds 4 (some .int), Cond.classLink RX2 54 "java/lang/UnsupportedOperationException", Cond.initialized "java/lang/UnsupportedOperationException", Cond.fieldLink RX2 59 "FloorGraph" "changes" "I"]
def wsL_join_r2 : List Cond := [Cond.instanceMethod yX1_addJoin, Cond.initialized RX1, Cond.selects RX1 yX1_addJoin yX1_addJoin, Cond.code yX1_addJoin cX1_addJoin 4 (some .int), Cond.fieldLink RX1 59 "FloorGraph$Floor" "passages" "I", Cond.methodLink RX1 55 yX1_addPassage, Cond.instanceMethod yX1_addPassage, Cond.selects RX1 yX1_addPassage yX1_addPassage, Cond.code yX1_addPassage cX1_addPassage 4 none, Cond.fieldLink RX1 31 "FloorGraph$Floor" "starts" "[I", Cond.fieldLink RX1 34 "FloorGraph$Floor" "goals" "[I", Cond.fieldLink RX1 37 "FloorGraph$Floor" "turnSeconds" "[I", Cond.fieldLink RX1 45 "FloorGraph$Floor" "leaving" "[[I", Cond.fieldLink RX1 48 "FloorGraph$Floor" "leavings" "[I"]
def wsL_join : List Cond := .codeWith yL_join cL_join 8 (some .int) [(0, 16, 19, 13), (0, 16, 23, 15)] :: ((wsL_join_r1 ++ wsL_join_r2) ++ wsX20 ++ wsX10 ++ (vx_atS RX2 45 "java/lang/IllegalArgumentException" ["java/lang/RuntimeException", "java/lang/Exception"]).filter goodWord ++ (vx_atS RX2 58 "java/lang/UnsupportedOperationException" ["java/lang/RuntimeException", "java/lang/Exception"]).filter goodWord)
def wsL_lift_r1 : List Cond := [Cond.classLink RL 13 "java/lang/IllegalArgumentException", Cond.classLink RL 15 "java/lang/UnsupportedOperationException", Cond.methodLink RL 21 yX2_lift, Cond.instanceMethod yX2_lift, Cond.selects RX2 yX2_lift yX2_lift, Cond.initialized RX2, Cond.code yX2_lift cX2_lift 4 (some .int), Cond.classLink RX2 41 "java/lang/IllegalArgumentException", Cond.initialized "java/lang/IllegalArgumentException", Cond.fieldLink RX2 12 "FloorGraph" "floor" "LFloorGraph$Floor;", Cond.methodLink RX2 66 yX2_needPiece, Cond.instanceMethod yX2_needPiece, Cond.selects RX2 yX2_needPiece yX2_needPiece, Cond.code yX2_needPiece cX2_needPiece 2 none, Cond.methodLink RX2 80 yX2_joinEnds, Cond.instanceMethod yX2_joinEnds, Cond.selects RX2 yX2_joinEnds yX2_joinEnds, Cond.code yX2_joinEnds cX2_joinEnds 4 (some .int), Cond.classLink RX2 54 "java/lang/UnsupportedOperationException", Cond.initialized "java/lang/UnsupportedOperationException", Cond.fieldLink RX2 59 "FloorGraph" "changes" "I", Cond.instanceMethod yX1_addJoin, Cond.initialized RX1, Cond.selects RX1 yX1_addJoin yX1_addJoin]
def wsL_lift_r2 : List Cond := [Cond.code yX1_addJoin cX1_addJoin 4 (some .int), Cond.fieldLink RX1 59 "FloorGraph$Floor" "passages" "I", Cond.methodLink RX1 55 yX1_addPassage, Cond.instanceMethod yX1_addPassage, Cond.selects RX1 yX1_addPassage yX1_addPassage, Cond.code yX1_addPassage cX1_addPassage 4 none, Cond.fieldLink RX1 31 "FloorGraph$Floor" "starts" "[I", Cond.fieldLink RX1 34 "FloorGraph$Floor" "goals" "[I", Cond.fieldLink RX1 37 "FloorGraph$Floor" "turnSeconds" "[I", Cond.fieldLink RX1 45 "FloorGraph$Floor" "leaving" "[[I", Cond.fieldLink RX1 48 "FloorGraph$Floor" "leavings" "[I"]
def wsL_lift : List Cond := .codeWith yL_lift cL_lift 6 (some .int) [(0, 12, 15, 13), (0, 12, 19, 15)] :: ((wsL_lift_r1 ++ wsL_lift_r2) ++ wsX20 ++ wsX10 ++ (vx_atS RX2 45 "java/lang/IllegalArgumentException" ["java/lang/RuntimeException", "java/lang/Exception"]).filter goodWord ++ (vx_atS RX2 58 "java/lang/UnsupportedOperationException" ["java/lang/RuntimeException", "java/lang/Exception"]).filter goodWord)
def wsL_turn : List Cond := .codeWith yL_turn cL_turn 6 (some .int) [(0, 12, 15, 13)] :: ([.classLink RL 13 "java/lang/IllegalArgumentException", .methodLink RL 25 yX2_turn, .instanceMethod yX2_turn, .selects RX2 yX2_turn yX2_turn, .initialized RX2, .code yX2_turn cX2_turn 4 (some .int), .classLink RX2 41 "java/lang/IllegalArgumentException", .initialized "java/lang/IllegalArgumentException", .fieldLink RX2 12 "FloorGraph" "floor" "LFloorGraph$Floor;", .fieldLink RX2 59 "FloorGraph" "changes" "I", .methodLink RX2 70 yX2_needZeroOrOne, .static yX2_needZeroOrOne, .code yX2_needZeroOrOne cX2_needZeroOrOne 1 none, .instanceMethod yX1_barredAmong, .initialized RX1, .selects RX1 yX1_barredAmong yX1_barredAmong, .code yX1_barredAmong cX1_barredAmong 5 (some .int), .fieldLink RX1 40 "FloorGraph$Floor" "barred" "[Z"] ++ wsX20 ++ wsX10 ++ (vx_atS RX2 45 "java/lang/IllegalArgumentException" ["java/lang/RuntimeException", "java/lang/Exception"]).filter goodWord)
def wsL_width : List Cond := .codeWith yL_width cL_width 4 (some .int) [(0, 6, 9, 13)] :: ([.classLink RL 13 "java/lang/IllegalArgumentException", .methodLink RL 28 yX2_width, .instanceMethod yX2_width, .selects RX2 yX2_width yX2_width, .initialized RX2, .code yX2_width cX2_width 3 none, .fieldLink RX2 59 "FloorGraph" "changes" "I", .fieldLink RX2 12 "FloorGraph" "floor" "LFloorGraph$Floor;", .methodLink RX2 66 yX2_needPiece, .instanceMethod yX2_needPiece, .selects RX2 yX2_needPiece yX2_needPiece, .code yX2_needPiece cX2_needPiece 2 none, .classLink RX2 41 "java/lang/IllegalArgumentException", .initialized "java/lang/IllegalArgumentException", .methodLink RX2 99 yX2_needWidth, .static yX2_needWidth, .code yX2_needWidth cX2_needWidth 1 none] ++ wsX20 ++ wsX10 ++ (vx_atS RX2 45 "java/lang/IllegalArgumentException" ["java/lang/RuntimeException", "java/lang/Exception"]).filter goodWord)
def wsL_zone_r1 : List Cond := [Cond.classLink RL 13 "java/lang/IllegalArgumentException", Cond.methodLink RL 32 yX2_zone, Cond.instanceMethod yX2_zone, Cond.selects RX2 yX2_zone yX2_zone, Cond.initialized RX2, Cond.code yX2_zone cX2_zone 4 (some .int), Cond.fieldLink RX2 59 "FloorGraph" "changes" "I", Cond.fieldLink RX2 12 "FloorGraph" "floor" "LFloorGraph$Floor;", Cond.methodLink RX2 66 yX2_needPiece, Cond.instanceMethod yX2_needPiece, Cond.selects RX2 yX2_needPiece yX2_needPiece, Cond.code yX2_needPiece cX2_needPiece 2 none, Cond.classLink RX2 41 "java/lang/IllegalArgumentException", Cond.initialized "java/lang/IllegalArgumentException", Cond.methodLink RX2 105 yX2_needHour, Cond.static yX2_needHour, Cond.code yX2_needHour cX2_needHour 1 none, Cond.instanceMethod yX1_setZone, Cond.initialized RX1, Cond.selects RX1 yX1_setZone yX1_setZone, Cond.code yX1_setZone cX1_setZone 5 (some .int), Cond.fieldLink RX1 28 "FloorGraph$Floor" "barredHours" "[I", Cond.methodLink RX1 62 yJ6_bitCount_0f7a4, Cond.static yJ6_bitCount_0f7a4]
def wsL_zone_r2 : List Cond := [Cond.initialized RJ6, Cond.code yJ6_bitCount_0f7a4 cJ6_bitCount_0f7a4 1 (some .int), Cond.constant RJ6 265 (1431655765), Cond.constant RJ6 266 (858993459), Cond.constant RJ6 267 (252645135)]
def wsL_zone : List Cond := .codeWith yL_zone cL_zone 6 (some .int) [(0, 12, 15, 13)] :: ((wsL_zone_r1 ++ wsL_zone_r2) ++ wsX20 ++ wsX10 ++ (vx_atS RX2 45 "java/lang/IllegalArgumentException" ["java/lang/RuntimeException", "java/lang/Exception"]).filter goodWord)
def wsL_closed : List Cond := .codeWith yL_closed cL_closed 5 (some .int) [(0, 10, 13, 13)] :: ([.classLink RL 13 "java/lang/IllegalArgumentException", .methodLink RL 35 yX2_closed, .instanceMethod yX2_closed, .selects RX2 yX2_closed yX2_closed, .initialized RX2, .code yX2_closed cX2_closed 3 (some .int), .fieldLink RX2 59 "FloorGraph" "changes" "I", .fieldLink RX2 12 "FloorGraph" "floor" "LFloorGraph$Floor;", .methodLink RX2 66 yX2_needPiece, .instanceMethod yX2_needPiece, .selects RX2 yX2_needPiece yX2_needPiece, .code yX2_needPiece cX2_needPiece 2 none, .classLink RX2 41 "java/lang/IllegalArgumentException", .initialized "java/lang/IllegalArgumentException", .instanceMethod yX1_shutPieces, .initialized RX1, .selects RX1 yX1_shutPieces yX1_shutPieces, .code yX1_shutPieces cX1_shutPieces 3 (some .int), .fieldLink RX1 51 "FloorGraph$Floor" "pieces" "I", .fieldLink RX1 25 "FloorGraph$Floor" "shut" "[Z"] ++ wsX20 ++ wsX10 ++ (vx_atS RX2 45 "java/lang/IllegalArgumentException" ["java/lang/RuntimeException", "java/lang/Exception"]).filter goodWord)
def wsL_robot : List Cond := .codeWith yL_robot cL_robot 4 (some .int) [(0, 9, 12, 13), (0, 9, 15, 15)] :: ([.classLink RL 13 "java/lang/IllegalArgumentException", .classLink RL 15 "java/lang/UnsupportedOperationException", .methodLink RL 39 yX2_robot, .instanceMethod yX2_robot, .selects RX2 yX2_robot yX2_robot, .initialized RX2, .code yX2_robot cX2_robot 2 (some .int), .classLink RX2 54 "java/lang/UnsupportedOperationException", .initialized "java/lang/UnsupportedOperationException", .fieldLink RX2 118 "FloorGraph" "robots" "I", .fieldLink RX2 12 "FloorGraph" "floor" "LFloorGraph$Floor;", .fieldLink RX2 59 "FloorGraph" "changes" "I", .fieldLink RX2 23 "FloorGraph" "robotWidths" "[I", .methodLink RX2 99 yX2_needWidth, .static yX2_needWidth, .code yX2_needWidth cX2_needWidth 1 none, .classLink RX2 41 "java/lang/IllegalArgumentException", .initialized "java/lang/IllegalArgumentException", .instanceMethod yX1_hasPieceFor, .initialized RX1, .selects RX1 yX1_hasPieceFor yX1_hasPieceFor, .code yX1_hasPieceFor cX1_hasPieceFor 3 (some .boolean), .fieldLink RX1 51 "FloorGraph$Floor" "pieces" "I", .fieldLink RX1 18 "FloorGraph$Floor" "widths" "[I"] ++ wsX20 ++ wsX10 ++ (vx_atS RX2 58 "java/lang/UnsupportedOperationException" ["java/lang/RuntimeException", "java/lang/Exception"]).filter goodWord ++ (vx_atS RX2 45 "java/lang/IllegalArgumentException" ["java/lang/RuntimeException", "java/lang/Exception"]).filter goodWord)
def wsL_way_r1 : List Cond := [Cond.classLink RL 13 "java/lang/IllegalArgumentException", Cond.methodLink RL 43 yX2_way, Cond.instanceMethod yX2_way, Cond.selects RX2 yX2_way yX2_way, Cond.initialized RX2, Cond.code yX2_way cX2_way 5 (some .int), Cond.fieldLink RX2 19 "FloorGraph" "drive" "LFloorGraph$Drive;", Cond.fieldLink RX2 12 "FloorGraph" "floor" "LFloorGraph$Floor;", Cond.fieldLink RX2 23 "FloorGraph" "robotWidths" "[I", Cond.fieldLink RX2 30 "FloorGraph" "wayBack" "[I", Cond.fieldLink RX2 143 "FloorGraph" "waySize" "I", Cond.methodLink RX2 127 yX2_needJourney, Cond.instanceMethod yX2_needJourney, Cond.selects RX2 yX2_needJourney yX2_needJourney, Cond.code yX2_needJourney cX2_needJourney 5 none, Cond.classLink RX2 41 "java/lang/IllegalArgumentException", Cond.initialized "java/lang/IllegalArgumentException", Cond.fieldLink RX2 118 "FloorGraph" "robots" "I", Cond.methodLink RX2 66 yX2_needPiece, Cond.instanceMethod yX2_needPiece, Cond.selects RX2 yX2_needPiece yX2_needPiece, Cond.code yX2_needPiece cX2_needPiece 2 none, Cond.methodLink RX2 105 yX2_needHour, Cond.static yX2_needHour]
def wsL_way_r2 : List Cond := [Cond.code yX2_needHour cX2_needHour 1 none, Cond.instanceMethod yX0_begin, Cond.initialized RX0, Cond.selects RX0 yX0_begin yX0_begin, Cond.code yX0_begin cX0_begin 5 none, Cond.fieldLink RX0 9 "FloorGraph$Drive" "open" "[Z", Cond.instanceMethod yX1_mayEnter, Cond.initialized RX1, Cond.selects RX1 yX1_mayEnter yX1_mayEnter, Cond.code yX1_mayEnter cX1_mayEnter 5 (some .boolean), Cond.fieldLink RX1 25 "FloorGraph$Floor" "shut" "[Z", Cond.fieldLink RX1 28 "FloorGraph$Floor" "barredHours" "[I", Cond.fieldLink RX1 18 "FloorGraph$Floor" "widths" "[I", Cond.fieldLink RX1 21 "FloorGraph$Floor" "twoWay" "[Z", Cond.instanceMethod yX0_spread, Cond.selects RX0 yX0_spread yX0_spread, Cond.code yX0_spread cX0_spread 5 none, Cond.fieldLink RX0 15 "FloorGraph$Drive" "reached" "[I", Cond.constant RX0 38 (1000000), Cond.methodLink RX0 39 yJ7_fill_53178, Cond.static yJ7_fill_53178, Cond.initialized RJ7, Cond.code yJ7_fill_53178 cJ7_fill_53178 4 none, Cond.instanceMethod yX1_mayLeave]
def wsL_way_r3 : List Cond := [Cond.selects RX1 yX1_mayLeave yX1_mayLeave, Cond.code yX1_mayLeave cX1_mayLeave 2 (some .boolean), Cond.methodLink RX0 49 yX0_spreadOnce, Cond.instanceMethod yX0_spreadOnce, Cond.selects RX0 yX0_spreadOnce yX0_spreadOnce, Cond.code yX0_spreadOnce cX0_spreadOnce 6 (some .boolean), Cond.methodLink RX0 53 yX0_secondBehind, Cond.instanceMethod yX0_secondBehind, Cond.selects RX0 yX0_secondBehind yX0_secondBehind, Cond.code yX0_secondBehind cX0_secondBehind 4 (some .int), Cond.methodLink RX0 63 yX0_secondAt, Cond.instanceMethod yX0_secondAt, Cond.selects RX0 yX0_secondAt yX0_secondAt, Cond.code yX0_secondAt cX0_secondAt 4 (some .int), Cond.instanceMethod yX0_trace, Cond.selects RX0 yX0_trace yX0_trace, Cond.code yX0_trace cX0_trace 8 (some .int), Cond.methodLink RX0 69 yX0_lastPassage, Cond.instanceMethod yX0_lastPassage, Cond.selects RX0 yX0_lastPassage yX0_lastPassage, Cond.code yX0_lastPassage cX0_lastPassage 7 (some .int), Cond.methodLink RX0 72 yX0_passageBefore, Cond.instanceMethod yX0_passageBefore, Cond.selects RX0 yX0_passageBefore yX0_passageBefore]
def wsL_way_r4 : List Cond := [Cond.code yX0_passageBefore cX0_passageBefore 4 (some .int), Cond.instanceMethod yX0_secondsTo, Cond.selects RX0 yX0_secondsTo yX0_secondsTo, Cond.code yX0_secondsTo cX0_secondsTo 5 (some .int)]
def wsL_way : List Cond := .codeWith yL_way cL_way 7 (some .int) [(0, 14, 17, 13)] :: ((wsL_way_r1 ++ (wsL_way_r2 ++ (wsL_way_r3 ++ wsL_way_r4))) ++ wsX20 ++ wsX10 ++ wsX00 ++ (vx_atS RX2 45 "java/lang/IllegalArgumentException" ["java/lang/RuntimeException", "java/lang/Exception"]).filter goodWord)
def wsL_same_r1 : List Cond := [Cond.classLink RL 13 "java/lang/IllegalArgumentException", Cond.methodLink RL 47 yX2_same, Cond.instanceMethod yX2_same, Cond.selects RX2 yX2_same yX2_same, Cond.initialized RX2, Cond.code yX2_same cX2_same 7 (some .boolean), Cond.fieldLink RX2 19 "FloorGraph" "drive" "LFloorGraph$Drive;", Cond.fieldLink RX2 12 "FloorGraph" "floor" "LFloorGraph$Floor;", Cond.fieldLink RX2 23 "FloorGraph" "robotWidths" "[I", Cond.methodLink RX2 127 yX2_needJourney, Cond.instanceMethod yX2_needJourney, Cond.selects RX2 yX2_needJourney yX2_needJourney, Cond.code yX2_needJourney cX2_needJourney 5 none, Cond.classLink RX2 41 "java/lang/IllegalArgumentException", Cond.initialized "java/lang/IllegalArgumentException", Cond.fieldLink RX2 118 "FloorGraph" "robots" "I", Cond.methodLink RX2 66 yX2_needPiece, Cond.instanceMethod yX2_needPiece, Cond.selects RX2 yX2_needPiece yX2_needPiece, Cond.code yX2_needPiece cX2_needPiece 2 none, Cond.methodLink RX2 105 yX2_needHour, Cond.static yX2_needHour, Cond.code yX2_needHour cX2_needHour 1 none, Cond.instanceMethod yX0_begin]
def wsL_same_r2 : List Cond := [Cond.initialized RX0, Cond.selects RX0 yX0_begin yX0_begin, Cond.code yX0_begin cX0_begin 5 none, Cond.fieldLink RX0 9 "FloorGraph$Drive" "open" "[Z", Cond.instanceMethod yX1_mayEnter, Cond.initialized RX1, Cond.selects RX1 yX1_mayEnter yX1_mayEnter, Cond.code yX1_mayEnter cX1_mayEnter 5 (some .boolean), Cond.fieldLink RX1 25 "FloorGraph$Floor" "shut" "[Z", Cond.fieldLink RX1 28 "FloorGraph$Floor" "barredHours" "[I", Cond.fieldLink RX1 18 "FloorGraph$Floor" "widths" "[I", Cond.fieldLink RX1 21 "FloorGraph$Floor" "twoWay" "[Z", Cond.instanceMethod yX0_spread, Cond.selects RX0 yX0_spread yX0_spread, Cond.code yX0_spread cX0_spread 5 none, Cond.fieldLink RX0 15 "FloorGraph$Drive" "reached" "[I", Cond.constant RX0 38 (1000000), Cond.methodLink RX0 39 yJ7_fill_53178, Cond.static yJ7_fill_53178, Cond.initialized RJ7, Cond.code yJ7_fill_53178 cJ7_fill_53178 4 none, Cond.instanceMethod yX1_mayLeave, Cond.selects RX1 yX1_mayLeave yX1_mayLeave, Cond.code yX1_mayLeave cX1_mayLeave 2 (some .boolean)]
def wsL_same_r3 : List Cond := [Cond.methodLink RX0 49 yX0_spreadOnce, Cond.instanceMethod yX0_spreadOnce, Cond.selects RX0 yX0_spreadOnce yX0_spreadOnce, Cond.code yX0_spreadOnce cX0_spreadOnce 6 (some .boolean), Cond.methodLink RX0 53 yX0_secondBehind, Cond.instanceMethod yX0_secondBehind, Cond.selects RX0 yX0_secondBehind yX0_secondBehind, Cond.code yX0_secondBehind cX0_secondBehind 4 (some .int), Cond.methodLink RX0 63 yX0_secondAt, Cond.instanceMethod yX0_secondAt, Cond.selects RX0 yX0_secondAt yX0_secondAt, Cond.code yX0_secondAt cX0_secondAt 4 (some .int), Cond.instanceMethod yX0_secondsTo, Cond.selects RX0 yX0_secondsTo yX0_secondsTo, Cond.code yX0_secondsTo cX0_secondsTo 5 (some .int), Cond.methodLink RX0 69 yX0_lastPassage, Cond.instanceMethod yX0_lastPassage, Cond.selects RX0 yX0_lastPassage yX0_lastPassage, Cond.code yX0_lastPassage cX0_lastPassage 7 (some .int)]
def wsL_same : List Cond := .codeWith yL_same cL_same 7 (some .int) [(0, 21, 24, 13)] :: ((wsL_same_r1 ++ (wsL_same_r2 ++ wsL_same_r3)) ++ wsX20 ++ wsX10 ++ wsX00 ++ (vx_atS RX2 45 "java/lang/IllegalArgumentException" ["java/lang/RuntimeException", "java/lang/Exception"]).filter goodWord)
def wsL_charger_r1 : List Cond := [Cond.classLink RL 13 "java/lang/IllegalArgumentException", Cond.classLink RL 54 "java/lang/IllegalStateException", Cond.classLink RL 15 "java/lang/UnsupportedOperationException", Cond.methodLink RL 51 yX2_charger, Cond.instanceMethod yX2_charger, Cond.selects RX2 yX2_charger yX2_charger, Cond.initialized RX2, Cond.code yX2_charger cX2_charger 2 (some .int), Cond.classLink RX2 153 "java/lang/IllegalStateException", Cond.initialized "java/lang/IllegalStateException", Cond.classLink RX2 54 "java/lang/UnsupportedOperationException", Cond.initialized "java/lang/UnsupportedOperationException", Cond.fieldLink RX2 158 "FloorGraph" "chargers" "I", Cond.fieldLink RX2 59 "FloorGraph" "changes" "I", Cond.fieldLink RX2 27 "FloorGraph" "chargerPieces" "[I", Cond.methodLink RX2 66 yX2_needPiece, Cond.instanceMethod yX2_needPiece, Cond.selects RX2 yX2_needPiece yX2_needPiece, Cond.code yX2_needPiece cX2_needPiece 2 none, Cond.classLink RX2 41 "java/lang/IllegalArgumentException", Cond.initialized "java/lang/IllegalArgumentException", Cond.fieldLink RX2 12 "FloorGraph" "floor" "LFloorGraph$Floor;", Cond.methodLink RX2 150 yX2_hasCharger, Cond.instanceMethod yX2_hasCharger]
def wsL_charger_r2 : List Cond := [Cond.selects RX2 yX2_hasCharger yX2_hasCharger, Cond.code yX2_hasCharger cX2_hasCharger 3 (some .boolean)]
def wsL_charger : List Cond := .codeWith yL_charger cL_charger 4 (some .int) [(0, 9, 12, 13), (0, 9, 15, 54), (0, 9, 18, 15)] :: ((wsL_charger_r1 ++ wsL_charger_r2) ++ wsX20 ++ wsX10 ++ (vx_atS RX2 157 "java/lang/IllegalStateException" ["java/lang/RuntimeException", "java/lang/Exception"]).filter goodWord ++ (vx_atS RX2 58 "java/lang/UnsupportedOperationException" ["java/lang/RuntimeException", "java/lang/Exception"]).filter goodWord ++ (vx_atS RX2 45 "java/lang/IllegalArgumentException" ["java/lang/RuntimeException", "java/lang/Exception"]).filter goodWord)
def wsL_nearest_r1 : List Cond := [Cond.classLink RL 13 "java/lang/IllegalArgumentException", Cond.methodLink RL 56 yX2_nearest, Cond.instanceMethod yX2_nearest, Cond.selects RX2 yX2_nearest yX2_nearest, Cond.initialized RX2, Cond.code yX2_nearest cX2_nearest 8 (some .int), Cond.fieldLink RX2 19 "FloorGraph" "drive" "LFloorGraph$Drive;", Cond.fieldLink RX2 12 "FloorGraph" "floor" "LFloorGraph$Floor;", Cond.fieldLink RX2 23 "FloorGraph" "robotWidths" "[I", Cond.constant RX2 163 (1000000), Cond.methodLink RX2 127 yX2_needJourney, Cond.instanceMethod yX2_needJourney, Cond.selects RX2 yX2_needJourney yX2_needJourney, Cond.code yX2_needJourney cX2_needJourney 5 none, Cond.classLink RX2 41 "java/lang/IllegalArgumentException", Cond.initialized "java/lang/IllegalArgumentException", Cond.fieldLink RX2 118 "FloorGraph" "robots" "I", Cond.methodLink RX2 66 yX2_needPiece, Cond.instanceMethod yX2_needPiece, Cond.selects RX2 yX2_needPiece yX2_needPiece, Cond.code yX2_needPiece cX2_needPiece 2 none, Cond.methodLink RX2 105 yX2_needHour, Cond.static yX2_needHour, Cond.code yX2_needHour cX2_needHour 1 none]
def wsL_nearest_r2 : List Cond := [Cond.instanceMethod yX0_begin, Cond.initialized RX0, Cond.selects RX0 yX0_begin yX0_begin, Cond.code yX0_begin cX0_begin 5 none, Cond.fieldLink RX0 9 "FloorGraph$Drive" "open" "[Z", Cond.instanceMethod yX1_mayEnter, Cond.initialized RX1, Cond.selects RX1 yX1_mayEnter yX1_mayEnter, Cond.code yX1_mayEnter cX1_mayEnter 5 (some .boolean), Cond.fieldLink RX1 25 "FloorGraph$Floor" "shut" "[Z", Cond.fieldLink RX1 28 "FloorGraph$Floor" "barredHours" "[I", Cond.fieldLink RX1 18 "FloorGraph$Floor" "widths" "[I", Cond.fieldLink RX1 21 "FloorGraph$Floor" "twoWay" "[Z", Cond.instanceMethod yX0_spread, Cond.selects RX0 yX0_spread yX0_spread, Cond.code yX0_spread cX0_spread 5 none, Cond.fieldLink RX0 15 "FloorGraph$Drive" "reached" "[I", Cond.constant RX0 38 (1000000), Cond.methodLink RX0 39 yJ7_fill_53178, Cond.static yJ7_fill_53178, Cond.initialized RJ7, Cond.code yJ7_fill_53178 cJ7_fill_53178 4 none, Cond.instanceMethod yX1_mayLeave, Cond.selects RX1 yX1_mayLeave yX1_mayLeave]
def wsL_nearest_r3 : List Cond := [Cond.code yX1_mayLeave cX1_mayLeave 2 (some .boolean), Cond.methodLink RX0 49 yX0_spreadOnce, Cond.instanceMethod yX0_spreadOnce, Cond.selects RX0 yX0_spreadOnce yX0_spreadOnce, Cond.code yX0_spreadOnce cX0_spreadOnce 6 (some .boolean), Cond.methodLink RX0 53 yX0_secondBehind, Cond.instanceMethod yX0_secondBehind, Cond.selects RX0 yX0_secondBehind yX0_secondBehind, Cond.code yX0_secondBehind cX0_secondBehind 4 (some .int), Cond.methodLink RX0 63 yX0_secondAt, Cond.instanceMethod yX0_secondAt, Cond.selects RX0 yX0_secondAt yX0_secondAt, Cond.code yX0_secondAt cX0_secondAt 4 (some .int), Cond.methodLink RX2 150 yX2_hasCharger, Cond.instanceMethod yX2_hasCharger, Cond.selects RX2 yX2_hasCharger yX2_hasCharger, Cond.code yX2_hasCharger cX2_hasCharger 3 (some .boolean), Cond.fieldLink RX2 158 "FloorGraph" "chargers" "I", Cond.fieldLink RX2 27 "FloorGraph" "chargerPieces" "[I", Cond.instanceMethod yX0_secondsTo, Cond.selects RX0 yX0_secondsTo yX0_secondsTo, Cond.code yX0_secondsTo cX0_secondsTo 5 (some .int), Cond.methodLink RX0 69 yX0_lastPassage, Cond.instanceMethod yX0_lastPassage]
def wsL_nearest_r4 : List Cond := [Cond.selects RX0 yX0_lastPassage yX0_lastPassage, Cond.code yX0_lastPassage cX0_lastPassage 7 (some .int)]
def wsL_nearest : List Cond := .codeWith yL_nearest cL_nearest 6 (some .int) [(0, 12, 15, 13)] :: ((wsL_nearest_r1 ++ (wsL_nearest_r2 ++ (wsL_nearest_r3 ++ wsL_nearest_r4))) ++ wsX20 ++ wsX10 ++ wsX00 ++ (vx_atS RX2 45 "java/lang/IllegalArgumentException" ["java/lang/RuntimeException", "java/lang/Exception"]).filter goodWord)
def wsL_table_r1 : List Cond := [Cond.classLink RL 54 "java/lang/IllegalStateException", Cond.methodLink RL 59 yX2_table, Cond.instanceMethod yX2_table, Cond.selects RX2 yX2_table yX2_table, Cond.initialized RX2, Cond.code yX2_table cX2_table 3 (some .int), Cond.classLink RX2 153 "java/lang/IllegalStateException", Cond.initialized "java/lang/IllegalStateException", Cond.fieldLink RX2 118 "FloorGraph" "robots" "I", Cond.fieldLink RX2 158 "FloorGraph" "chargers" "I", Cond.classLink RX2 166 RJx00060, Cond.instantiable RJx00060 6, Cond.initialized RJx00060, Cond.fieldLink RX2 38 "FloorGraph" "rowWorkedAt" "[I", Cond.fieldLink RX2 59 "FloorGraph" "changes" "I", Cond.fieldLink RX2 35 "FloorGraph" "tableRows" "[[I", Cond.methodLink RX2 171 yX2_workRow, Cond.instanceMethod yX2_workRow, Cond.selects RX2 yX2_workRow yX2_workRow, Cond.code yX2_workRow cX2_workRow 4 none, Cond.fieldLink RX2 27 "FloorGraph" "chargerPieces" "[I", Cond.fieldLink RX2 19 "FloorGraph" "drive" "LFloorGraph$Drive;", Cond.fieldLink RX2 12 "FloorGraph" "floor" "LFloorGraph$Floor;", Cond.fieldLink RX2 23 "FloorGraph" "robotWidths" "[I"]
def wsL_table_r2 : List Cond := [Cond.fieldLink RX2 174 "FloorGraph" "rowsWorked" "I", Cond.instanceMethod yX0_begin, Cond.initialized RX0, Cond.selects RX0 yX0_begin yX0_begin, Cond.code yX0_begin cX0_begin 5 none, Cond.fieldLink RX0 9 "FloorGraph$Drive" "open" "[Z", Cond.instanceMethod yX1_mayEnter, Cond.initialized RX1, Cond.selects RX1 yX1_mayEnter yX1_mayEnter, Cond.code yX1_mayEnter cX1_mayEnter 5 (some .boolean), Cond.fieldLink RX1 25 "FloorGraph$Floor" "shut" "[Z", Cond.fieldLink RX1 28 "FloorGraph$Floor" "barredHours" "[I", Cond.fieldLink RX1 18 "FloorGraph$Floor" "widths" "[I", Cond.fieldLink RX1 21 "FloorGraph$Floor" "twoWay" "[Z", Cond.instanceMethod yX0_spread, Cond.selects RX0 yX0_spread yX0_spread, Cond.code yX0_spread cX0_spread 5 none, Cond.fieldLink RX0 15 "FloorGraph$Drive" "reached" "[I", Cond.constant RX0 38 (1000000), Cond.methodLink RX0 39 yJ7_fill_53178, Cond.static yJ7_fill_53178, Cond.initialized RJ7, Cond.code yJ7_fill_53178 cJ7_fill_53178 4 none, Cond.instanceMethod yX1_mayLeave]
def wsL_table_r3 : List Cond := [Cond.selects RX1 yX1_mayLeave yX1_mayLeave, Cond.code yX1_mayLeave cX1_mayLeave 2 (some .boolean), Cond.methodLink RX0 49 yX0_spreadOnce, Cond.instanceMethod yX0_spreadOnce, Cond.selects RX0 yX0_spreadOnce yX0_spreadOnce, Cond.code yX0_spreadOnce cX0_spreadOnce 6 (some .boolean), Cond.methodLink RX0 53 yX0_secondBehind, Cond.instanceMethod yX0_secondBehind, Cond.selects RX0 yX0_secondBehind yX0_secondBehind, Cond.code yX0_secondBehind cX0_secondBehind 4 (some .int), Cond.methodLink RX0 63 yX0_secondAt, Cond.instanceMethod yX0_secondAt, Cond.selects RX0 yX0_secondAt yX0_secondAt, Cond.code yX0_secondAt cX0_secondAt 4 (some .int), Cond.instanceMethod yX0_secondsTo, Cond.selects RX0 yX0_secondsTo yX0_secondsTo, Cond.code yX0_secondsTo cX0_secondsTo 5 (some .int), Cond.methodLink RX0 69 yX0_lastPassage, Cond.instanceMethod yX0_lastPassage, Cond.selects RX0 yX0_lastPassage yX0_lastPassage, Cond.code yX0_lastPassage cX0_lastPassage 7 (some .int)]
def wsL_table : List Cond := .codeWith yL_table cL_table 5 (some .int) [(0, 10, 13, 54), (0, 10, 17, 63)] :: ((wsL_table_r1 ++ (wsL_table_r2 ++ wsL_table_r3)) ++ wsX20 ++ wsJx000600 ++ wsX10 ++ wsX00 ++ (vx_atS RX2 157 "java/lang/IllegalStateException" ["java/lang/RuntimeException", "java/lang/Exception"]).filter goodWord)
def wsL_plain_r1 : List Cond := [Cond.classLink RL 13 "java/lang/IllegalArgumentException", Cond.methodLink RL 65 yX2_plain, Cond.instanceMethod yX2_plain, Cond.selects RX2 yX2_plain yX2_plain, Cond.initialized RX2, Cond.code yX2_plain cX2_plain 6 (some .int), Cond.classLink RX2 41 "java/lang/IllegalArgumentException", Cond.initialized "java/lang/IllegalArgumentException", Cond.fieldLink RX2 19 "FloorGraph" "drive" "LFloorGraph$Drive;", Cond.fieldLink RX2 12 "FloorGraph" "floor" "LFloorGraph$Floor;", Cond.fieldLink RX2 23 "FloorGraph" "robotWidths" "[I", Cond.methodLink RX2 127 yX2_needJourney, Cond.instanceMethod yX2_needJourney, Cond.selects RX2 yX2_needJourney yX2_needJourney, Cond.code yX2_needJourney cX2_needJourney 5 none, Cond.fieldLink RX2 118 "FloorGraph" "robots" "I", Cond.methodLink RX2 66 yX2_needPiece, Cond.instanceMethod yX2_needPiece, Cond.selects RX2 yX2_needPiece yX2_needPiece, Cond.code yX2_needPiece cX2_needPiece 2 none, Cond.methodLink RX2 105 yX2_needHour, Cond.static yX2_needHour, Cond.code yX2_needHour cX2_needHour 1 none, Cond.instanceMethod yX0_begin]
def wsL_plain_r2 : List Cond := [Cond.initialized RX0, Cond.selects RX0 yX0_begin yX0_begin, Cond.code yX0_begin cX0_begin 5 none, Cond.fieldLink RX0 9 "FloorGraph$Drive" "open" "[Z", Cond.instanceMethod yX1_mayEnter, Cond.initialized RX1, Cond.selects RX1 yX1_mayEnter yX1_mayEnter, Cond.code yX1_mayEnter cX1_mayEnter 5 (some .boolean), Cond.fieldLink RX1 25 "FloorGraph$Floor" "shut" "[Z", Cond.fieldLink RX1 28 "FloorGraph$Floor" "barredHours" "[I", Cond.fieldLink RX1 18 "FloorGraph$Floor" "widths" "[I", Cond.fieldLink RX1 21 "FloorGraph$Floor" "twoWay" "[Z", Cond.instanceMethod yX0_waysBetween, Cond.selects RX0 yX0_waysBetween yX0_waysBetween, Cond.code yX0_waysBetween cX0_waysBetween 7 (some .int), Cond.fieldLink RX0 19 "FloorGraph$Drive" "met" "[Z", Cond.instanceMethod yX1_mayLeave, Cond.selects RX1 yX1_mayLeave yX1_mayLeave, Cond.code yX1_mayLeave cX1_mayLeave 2 (some .boolean), Cond.methodLink RX0 78 yX0_waysOn, Cond.instanceMethod yX0_waysOn, Cond.selects RX0 yX0_waysOn yX0_waysOn, Cond.code yX0_waysOn cX0_waysOn 10 (some .int)]
def wsL_plain : List Cond := .codeWith yL_plain cL_plain 8 (some .int) [(0, 16, 19, 13)] :: ((wsL_plain_r1 ++ wsL_plain_r2) ++ wsX20 ++ wsX10 ++ wsX00 ++ (vx_atS RX2 45 "java/lang/IllegalArgumentException" ["java/lang/RuntimeException", "java/lang/Exception"]).filter goodWord)
def wsL_law0_r1 : List Cond := [Cond.classLink RL 8 RX2, Cond.instantiable RX2 12, Cond.initialized RX2, Cond.classLink RL 69 RX3, Cond.instantiable RX3 24, Cond.initialized RX3, Cond.arrayClass .long, Cond.methodLink RL 68 yX2_init, Cond.instanceMethod yX2_init, Cond.code yX2_init cX2_init 1 none, Cond.methodLink RX2 3 objectInit, Cond.instanceMethod objectInit, Cond.code objectInit ⟨#[0xb1]⟩ 1 none, Cond.classLink RX2 9 RX1, Cond.instantiable RX1 14, Cond.initialized RX1, Cond.fieldLink RX2 12 "FloorGraph" "floor" "LFloorGraph$Floor;", Cond.classLink RX2 16 RX0, Cond.instantiable RX0 3, Cond.initialized RX0, Cond.fieldLink RX2 19 "FloorGraph" "drive" "LFloorGraph$Drive;", Cond.arrayClass .int, Cond.fieldLink RX2 23 "FloorGraph" "robotWidths" "[I", Cond.fieldLink RX2 27 "FloorGraph" "chargerPieces" "[I"]
def wsL_law0_r2 : List Cond := [Cond.fieldLink RX2 30 "FloorGraph" "wayBack" "[I", Cond.classLink RX2 33 "[[I", Cond.fieldLink RX2 35 "FloorGraph" "tableRows" "[[I", Cond.fieldLink RX2 38 "FloorGraph" "rowWorkedAt" "[I", Cond.instanceMethod yX1_init, Cond.code yX1_init cX1_init 1 none, Cond.methodLink RX1 3 objectInit, Cond.fieldLink RX1 9 "FloorGraph$Floor" "levels" "[I", Cond.fieldLink RX1 15 "FloorGraph$Floor" "lengths" "[I", Cond.fieldLink RX1 18 "FloorGraph$Floor" "widths" "[I", Cond.arrayClass .boolean, Cond.fieldLink RX1 21 "FloorGraph$Floor" "twoWay" "[Z", Cond.fieldLink RX1 25 "FloorGraph$Floor" "shut" "[Z", Cond.fieldLink RX1 28 "FloorGraph$Floor" "barredHours" "[I", Cond.fieldLink RX1 31 "FloorGraph$Floor" "starts" "[I", Cond.fieldLink RX1 34 "FloorGraph$Floor" "goals" "[I", Cond.fieldLink RX1 37 "FloorGraph$Floor" "turnSeconds" "[I", Cond.fieldLink RX1 40 "FloorGraph$Floor" "barred" "[Z", Cond.classLink RX1 43 "[[I", Cond.fieldLink RX1 45 "FloorGraph$Floor" "leaving" "[[I", Cond.fieldLink RX1 48 "FloorGraph$Floor" "leavings" "[I", Cond.instanceMethod yX0_init, Cond.code yX0_init cX0_init 1 none, Cond.methodLink RX0 3 objectInit]
def wsL_law0_r3 : List Cond := [Cond.fieldLink RX0 9 "FloorGraph$Drive" "open" "[Z", Cond.fieldLink RX0 15 "FloorGraph$Drive" "reached" "[I", Cond.fieldLink RX0 19 "FloorGraph$Drive" "met" "[Z", Cond.methodLink RL 71 yX3_init, Cond.instanceMethod yX3_init, Cond.code yX3_init cX3_init 2 none, Cond.methodLink RX3 1 objectInit, Cond.fieldLink RX3 7 "FloorGraphModel" "level" "[I", Cond.fieldLink RX3 13 "FloorGraphModel" "length" "[I", Cond.fieldLink RX3 16 "FloorGraphModel" "wide" "[I", Cond.fieldLink RX3 19 "FloorGraphModel" "both" "[Z", Cond.fieldLink RX3 23 "FloorGraphModel" "shut" "[Z", Cond.fieldLink RX3 26 "FloorGraphModel" "zones" "[I", Cond.fieldLink RX3 29 "FloorGraphModel" "one" "[I", Cond.fieldLink RX3 32 "FloorGraphModel" "two" "[I", Cond.fieldLink RX3 35 "FloorGraphModel" "turning" "[I", Cond.fieldLink RX3 38 "FloorGraphModel" "bars" "[I", Cond.fieldLink RX3 41 "FloorGraphModel" "robotWide" "[I", Cond.fieldLink RX3 44 "FloorGraphModel" "chargerAt" "[I", Cond.fieldLink RX3 47 "FloorGraphModel" "workedAt" "[I", Cond.fieldLink RX3 50 "FloorGraphModel" "reached" "[I", Cond.fieldLink RX3 53 "FloorGraphModel" "steps" "[I", Cond.fieldLink RX3 56 "FloorGraphModel" "on" "[I", Cond.methodLink RL 72 yL_piece]
def wsL_law0_r4 : List Cond := [Cond.static yL_piece, Cond.initialized RL, Cond.codeWith yL_piece cL_piece 6 (some .int) [(0, 12, 15, 13), (0, 12, 19, 15)], Cond.classLink RL 13 "java/lang/IllegalArgumentException", Cond.classLink RL 15 "java/lang/UnsupportedOperationException", Cond.methodLink RL 7 yX2_piece, Cond.instanceMethod yX2_piece, Cond.selects RX2 yX2_piece yX2_piece, Cond.code yX2_piece cX2_piece 4 (some .int), Cond.classLink RX2 41 "java/lang/IllegalArgumentException", Cond.initialized "java/lang/IllegalArgumentException", Cond.classLink RX2 54 "java/lang/UnsupportedOperationException", Cond.initialized "java/lang/UnsupportedOperationException", Cond.fieldLink RX2 59 "FloorGraph" "changes" "I", Cond.instanceMethod yX1_addPiece, Cond.selects RX1 yX1_addPiece yX1_addPiece, Cond.code yX1_addPiece cX1_addPiece 5 (some .int), Cond.fieldLink RX1 51 "FloorGraph$Floor" "pieces" "I", Cond.methodLink RL 77 yX3_piece, Cond.instanceMethod yX3_piece, Cond.selects RX3 yX3_piece yX3_piece, Cond.code yX3_piece cX3_piece 4 (some .int), Cond.fieldLink RX3 63 "FloorGraphModel" "pieces" "I", Cond.fieldLink RX3 59 "FloorGraphModel" "code" "I"]
def wsL_law0_r5 : List Cond := [Cond.fieldLink RX3 70 "FloorGraphModel" "changes" "I", Cond.methodLink RX3 66 yX3_in, Cond.static yX3_in, Cond.code yX3_in cX3_in 3 (some .boolean), Cond.methodLink RL 78 yX3_thrown, Cond.instanceMethod yX3_thrown, Cond.selects RX3 yX3_thrown yX3_thrown, Cond.code yX3_thrown cX3_thrown 1 (some .int), Cond.methodLink RL 82 yL_join, Cond.static yL_join, Cond.codeWith yL_join cL_join 8 (some .int) [(0, 16, 19, 13), (0, 16, 23, 15)], Cond.methodLink RL 17 yX2_join, Cond.instanceMethod yX2_join, Cond.selects RX2 yX2_join yX2_join, Cond.code yX2_join cX2_join 6 (some .int), Cond.methodLink RX2 66 yX2_needPiece, Cond.instanceMethod yX2_needPiece, Cond.selects RX2 yX2_needPiece yX2_needPiece, Cond.code yX2_needPiece cX2_needPiece 2 none, Cond.methodLink RX2 70 yX2_needZeroOrOne, Cond.static yX2_needZeroOrOne, Cond.code yX2_needZeroOrOne cX2_needZeroOrOne 1 none, Cond.methodLink RX2 80 yX2_joinEnds, Cond.instanceMethod yX2_joinEnds]
def wsL_law0_r6 : List Cond := [Cond.selects RX2 yX2_joinEnds yX2_joinEnds, Cond.code yX2_joinEnds cX2_joinEnds 4 (some .int), Cond.instanceMethod yX1_addJoin, Cond.selects RX1 yX1_addJoin yX1_addJoin, Cond.code yX1_addJoin cX1_addJoin 4 (some .int), Cond.fieldLink RX1 59 "FloorGraph$Floor" "passages" "I", Cond.methodLink RX1 55 yX1_addPassage, Cond.instanceMethod yX1_addPassage, Cond.selects RX1 yX1_addPassage yX1_addPassage, Cond.code yX1_addPassage cX1_addPassage 4 none, Cond.methodLink RL 85 yX3_join, Cond.instanceMethod yX3_join, Cond.selects RX3 yX3_join yX3_join, Cond.code yX3_join cX3_join 7 (some .int), Cond.fieldLink RX3 73 "FloorGraphModel" "joins" "I", Cond.methodLink RX3 76 yX3_isPiece, Cond.instanceMethod yX3_isPiece, Cond.selects RX3 yX3_isPiece yX3_isPiece, Cond.code yX3_isPiece cX3_isPiece 2 (some .boolean), Cond.methodLink RX3 80 yX3_link, Cond.instanceMethod yX3_link, Cond.selects RX3 yX3_link yX3_link, Cond.code yX3_link cX3_link 4 (some .int), Cond.methodLink RL 86 yL_lift]
def wsL_law0_r7 : List Cond := [Cond.static yL_lift, Cond.codeWith yL_lift cL_lift 6 (some .int) [(0, 12, 15, 13), (0, 12, 19, 15)], Cond.methodLink RL 21 yX2_lift, Cond.instanceMethod yX2_lift, Cond.selects RX2 yX2_lift yX2_lift, Cond.code yX2_lift cX2_lift 4 (some .int), Cond.methodLink RL 89 yX3_lift, Cond.instanceMethod yX3_lift, Cond.selects RX3 yX3_lift yX3_lift, Cond.code yX3_lift cX3_lift 5 (some .int), Cond.methodLink RL 90 yL_turn, Cond.static yL_turn, Cond.codeWith yL_turn cL_turn 6 (some .int) [(0, 12, 15, 13)], Cond.methodLink RL 25 yX2_turn, Cond.instanceMethod yX2_turn, Cond.selects RX2 yX2_turn yX2_turn, Cond.code yX2_turn cX2_turn 4 (some .int), Cond.instanceMethod yX1_barredAmong, Cond.selects RX1 yX1_barredAmong yX1_barredAmong, Cond.code yX1_barredAmong cX1_barredAmong 5 (some .int), Cond.methodLink RL 92 yX3_turn, Cond.instanceMethod yX3_turn, Cond.selects RX3 yX3_turn yX3_turn, Cond.code yX3_turn cX3_turn 4 (some .int)]
def wsL_law0_r8 : List Cond := [Cond.methodLink RX3 84 yX3_with, Cond.static yX3_with, Cond.code yX3_with cX3_with 3 (some .int), Cond.methodLink RX3 88 yX3_bits, Cond.static yX3_bits, Cond.code yX3_bits cX3_bits 3 (some .int), Cond.methodLink RL 93 yL_width, Cond.static yL_width, Cond.codeWith yL_width cL_width 4 (some .int) [(0, 6, 9, 13)], Cond.methodLink RL 28 yX2_width, Cond.instanceMethod yX2_width, Cond.selects RX2 yX2_width yX2_width, Cond.code yX2_width cX2_width 3 none, Cond.methodLink RX2 99 yX2_needWidth, Cond.static yX2_needWidth, Cond.code yX2_needWidth cX2_needWidth 1 none, Cond.methodLink RL 96 yX3_width, Cond.instanceMethod yX3_width, Cond.selects RX3 yX3_width yX3_width, Cond.code yX3_width cX3_width 3 none, Cond.methodLink RL 97 yL_zone, Cond.static yL_zone, Cond.codeWith yL_zone cL_zone 6 (some .int) [(0, 12, 15, 13)], Cond.methodLink RL 32 yX2_zone]
def wsL_law0_r9 : List Cond := [Cond.instanceMethod yX2_zone, Cond.selects RX2 yX2_zone yX2_zone, Cond.code yX2_zone cX2_zone 4 (some .int), Cond.methodLink RX2 105 yX2_needHour, Cond.static yX2_needHour, Cond.code yX2_needHour cX2_needHour 1 none, Cond.instanceMethod yX1_setZone, Cond.selects RX1 yX1_setZone yX1_setZone, Cond.code yX1_setZone cX1_setZone 5 (some .int), Cond.methodLink RX1 62 yJ6_bitCount_0f7a4, Cond.static yJ6_bitCount_0f7a4, Cond.initialized RJ6, Cond.code yJ6_bitCount_0f7a4 cJ6_bitCount_0f7a4 1 (some .int), Cond.constant RJ6 265 (1431655765), Cond.constant RJ6 266 (858993459), Cond.constant RJ6 267 (252645135), Cond.methodLink RL 99 yX3_zone, Cond.instanceMethod yX3_zone, Cond.selects RX3 yX3_zone yX3_zone, Cond.code yX3_zone cX3_zone 4 (some .int), Cond.methodLink RL 100 yL_closed, Cond.static yL_closed, Cond.codeWith yL_closed cL_closed 5 (some .int) [(0, 10, 13, 13)], Cond.methodLink RL 35 yX2_closed]
def wsL_law0_r10 : List Cond := [Cond.instanceMethod yX2_closed, Cond.selects RX2 yX2_closed yX2_closed, Cond.code yX2_closed cX2_closed 3 (some .int), Cond.instanceMethod yX1_shutPieces, Cond.selects RX1 yX1_shutPieces yX1_shutPieces, Cond.code yX1_shutPieces cX1_shutPieces 3 (some .int), Cond.methodLink RL 103 yX3_closed, Cond.instanceMethod yX3_closed, Cond.selects RX3 yX3_closed yX3_closed, Cond.code yX3_closed cX3_closed 5 (some .int), Cond.methodLink RL 104 yL_robot, Cond.static yL_robot, Cond.codeWith yL_robot cL_robot 4 (some .int) [(0, 9, 12, 13), (0, 9, 15, 15)], Cond.methodLink RL 39 yX2_robot, Cond.instanceMethod yX2_robot, Cond.selects RX2 yX2_robot yX2_robot, Cond.code yX2_robot cX2_robot 2 (some .int), Cond.fieldLink RX2 118 "FloorGraph" "robots" "I", Cond.instanceMethod yX1_hasPieceFor, Cond.selects RX1 yX1_hasPieceFor yX1_hasPieceFor, Cond.code yX1_hasPieceFor cX1_hasPieceFor 3 (some .boolean), Cond.methodLink RL 107 yX3_robot, Cond.instanceMethod yX3_robot, Cond.selects RX3 yX3_robot yX3_robot]
def wsL_law0_r11 : List Cond := [Cond.code yX3_robot cX3_robot 4 (some .int), Cond.fieldLink RX3 92 "FloorGraphModel" "robots" "I", Cond.methodLink RL 108 yL_way, Cond.static yL_way, Cond.codeWith yL_way cL_way 7 (some .int) [(0, 14, 17, 13)], Cond.methodLink RL 43 yX2_way, Cond.instanceMethod yX2_way, Cond.selects RX2 yX2_way yX2_way, Cond.code yX2_way cX2_way 5 (some .int), Cond.fieldLink RX2 143 "FloorGraph" "waySize" "I", Cond.methodLink RX2 127 yX2_needJourney, Cond.instanceMethod yX2_needJourney, Cond.selects RX2 yX2_needJourney yX2_needJourney, Cond.code yX2_needJourney cX2_needJourney 5 none, Cond.instanceMethod yX0_begin, Cond.selects RX0 yX0_begin yX0_begin, Cond.code yX0_begin cX0_begin 5 none, Cond.instanceMethod yX1_mayEnter, Cond.selects RX1 yX1_mayEnter yX1_mayEnter, Cond.code yX1_mayEnter cX1_mayEnter 5 (some .boolean), Cond.instanceMethod yX0_spread, Cond.selects RX0 yX0_spread yX0_spread, Cond.code yX0_spread cX0_spread 5 none, Cond.constant RX0 38 (1000000)]
def wsL_law0_r12 : List Cond := [Cond.methodLink RX0 39 yJ7_fill_53178, Cond.static yJ7_fill_53178, Cond.initialized RJ7, Cond.code yJ7_fill_53178 cJ7_fill_53178 4 none, Cond.instanceMethod yX1_mayLeave, Cond.selects RX1 yX1_mayLeave yX1_mayLeave, Cond.code yX1_mayLeave cX1_mayLeave 2 (some .boolean), Cond.methodLink RX0 49 yX0_spreadOnce, Cond.instanceMethod yX0_spreadOnce, Cond.selects RX0 yX0_spreadOnce yX0_spreadOnce, Cond.code yX0_spreadOnce cX0_spreadOnce 6 (some .boolean), Cond.methodLink RX0 53 yX0_secondBehind, Cond.instanceMethod yX0_secondBehind, Cond.selects RX0 yX0_secondBehind yX0_secondBehind, Cond.code yX0_secondBehind cX0_secondBehind 4 (some .int), Cond.methodLink RX0 63 yX0_secondAt, Cond.instanceMethod yX0_secondAt, Cond.selects RX0 yX0_secondAt yX0_secondAt, Cond.code yX0_secondAt cX0_secondAt 4 (some .int), Cond.instanceMethod yX0_trace, Cond.selects RX0 yX0_trace yX0_trace, Cond.code yX0_trace cX0_trace 8 (some .int), Cond.methodLink RX0 69 yX0_lastPassage, Cond.instanceMethod yX0_lastPassage]
def wsL_law0_r13 : List Cond := [Cond.selects RX0 yX0_lastPassage yX0_lastPassage, Cond.code yX0_lastPassage cX0_lastPassage 7 (some .int), Cond.methodLink RX0 72 yX0_passageBefore, Cond.instanceMethod yX0_passageBefore, Cond.selects RX0 yX0_passageBefore yX0_passageBefore, Cond.code yX0_passageBefore cX0_passageBefore 4 (some .int), Cond.instanceMethod yX0_secondsTo, Cond.selects RX0 yX0_secondsTo yX0_secondsTo, Cond.code yX0_secondsTo cX0_secondsTo 5 (some .int), Cond.methodLink RL 111 yX3_way, Cond.instanceMethod yX3_way, Cond.selects RX3 yX3_way yX3_way, Cond.code yX3_way cX3_way 7 (some .int), Cond.fieldLink RX3 129 "FloorGraphModel" "stepCount" "I", Cond.methodLink RX3 123 yX3_isDrive, Cond.instanceMethod yX3_isDrive, Cond.selects RX3 yX3_isDrive yX3_isDrive, Cond.code yX3_isDrive cX3_isDrive 5 (some .boolean), Cond.methodLink RX3 126 yX3_least, Cond.instanceMethod yX3_least, Cond.selects RX3 yX3_least yX3_least, Cond.code yX3_least cX3_least 5 (some .int), Cond.methodLink RX3 116 yX3_reachAll, Cond.instanceMethod yX3_reachAll]
def wsL_law0_r14 : List Cond := [Cond.selects RX3 yX3_reachAll yX3_reachAll, Cond.code yX3_reachAll cX3_reachAll 7 none, Cond.methodLink RX3 102 yX3_lower, Cond.instanceMethod yX3_lower, Cond.selects RX3 yX3_lower yX3_lower, Cond.code yX3_lower cX3_lower 7 (some .boolean), Cond.methodLink RX3 112 yX3_through, Cond.instanceMethod yX3_through, Cond.selects RX3 yX3_through yX3_through, Cond.code yX3_through cX3_through 5 (some .int), Cond.methodLink RX3 106 yX3_from, Cond.instanceMethod yX3_from, Cond.selects RX3 yX3_from yX3_from, Cond.code yX3_from cX3_from 3 (some .int), Cond.methodLink RX3 109 yX3_mayGo, Cond.instanceMethod yX3_mayGo, Cond.selects RX3 yX3_mayGo yX3_mayGo, Cond.code yX3_mayGo cX3_mayGo 5 (some .boolean), Cond.methodLink RX3 95 yX3_to, Cond.instanceMethod yX3_to, Cond.selects RX3 yX3_to yX3_to, Cond.code yX3_to cX3_to 3 (some .int), Cond.methodLink RX3 99 yX3_mayEnter, Cond.instanceMethod yX3_mayEnter]
def wsL_law0_r15 : List Cond := [Cond.selects RX3 yX3_mayEnter yX3_mayEnter, Cond.code yX3_mayEnter cX3_mayEnter 5 (some .boolean), Cond.methodLink RX3 120 yX3_secondsTo, Cond.instanceMethod yX3_secondsTo, Cond.selects RX3 yX3_secondsTo yX3_secondsTo, Cond.code yX3_secondsTo cX3_secondsTo 9 (some .int), Cond.methodLink RX3 132 yX3_lastEnd, Cond.instanceMethod yX3_lastEnd, Cond.selects RX3 yX3_lastEnd yX3_lastEnd, Cond.code yX3_lastEnd cX3_lastEnd 7 (some .int), Cond.methodLink RX3 135 yX3_before, Cond.instanceMethod yX3_before, Cond.selects RX3 yX3_before yX3_before, Cond.code yX3_before cX3_before 6 (some .int), Cond.methodLink RL 112 yX2_step, Cond.instanceMethod yX2_step, Cond.selects RX2 yX2_step yX2_step, Cond.code yX2_step cX2_step 2 (some .int), Cond.methodLink RL 115 yX3_step, Cond.instanceMethod yX3_step, Cond.selects RX3 yX3_step yX3_step, Cond.code yX3_step cX3_step 2 (some .int), Cond.methodLink RL 116 yL_same, Cond.static yL_same]
def wsL_law0_r16 : List Cond := [Cond.codeWith yL_same cL_same 7 (some .int) [(0, 21, 24, 13)], Cond.methodLink RL 47 yX2_same, Cond.instanceMethod yX2_same, Cond.selects RX2 yX2_same yX2_same, Cond.code yX2_same cX2_same 7 (some .boolean), Cond.methodLink RL 118 yX3_same, Cond.instanceMethod yX3_same, Cond.selects RX3 yX3_same yX3_same, Cond.code yX3_same cX3_same 5 (some .boolean), Cond.methodLink RL 119 yL_charger, Cond.static yL_charger, Cond.codeWith yL_charger cL_charger 4 (some .int) [(0, 9, 12, 13), (0, 9, 15, 54), (0, 9, 18, 15)], Cond.classLink RL 54 "java/lang/IllegalStateException", Cond.methodLink RL 51 yX2_charger, Cond.instanceMethod yX2_charger, Cond.selects RX2 yX2_charger yX2_charger, Cond.code yX2_charger cX2_charger 2 (some .int), Cond.classLink RX2 153 "java/lang/IllegalStateException", Cond.initialized "java/lang/IllegalStateException", Cond.fieldLink RX2 158 "FloorGraph" "chargers" "I", Cond.methodLink RX2 150 yX2_hasCharger, Cond.instanceMethod yX2_hasCharger, Cond.selects RX2 yX2_hasCharger yX2_hasCharger, Cond.code yX2_hasCharger cX2_hasCharger 3 (some .boolean)]
def wsL_law0_r17 : List Cond := [Cond.methodLink RL 121 yX3_charger, Cond.instanceMethod yX3_charger, Cond.selects RX3 yX3_charger yX3_charger, Cond.code yX3_charger cX3_charger 3 (some .int), Cond.fieldLink RX3 138 "FloorGraphModel" "chargers" "I", Cond.methodLink RL 122 yL_nearest, Cond.static yL_nearest, Cond.codeWith yL_nearest cL_nearest 6 (some .int) [(0, 12, 15, 13)], Cond.methodLink RL 56 yX2_nearest, Cond.instanceMethod yX2_nearest, Cond.selects RX2 yX2_nearest yX2_nearest, Cond.code yX2_nearest cX2_nearest 8 (some .int), Cond.constant RX2 163 (1000000), Cond.methodLink RL 124 yX3_nearest, Cond.instanceMethod yX3_nearest, Cond.selects RX3 yX3_nearest yX3_nearest, Cond.code yX3_nearest cX3_nearest 9 (some .int), Cond.methodLink RL 125 yL_table, Cond.static yL_table, Cond.codeWith yL_table cL_table 5 (some .int) [(0, 10, 13, 54), (0, 10, 17, 63)], Cond.methodLink RL 59 yX2_table, Cond.instanceMethod yX2_table, Cond.selects RX2 yX2_table yX2_table, Cond.code yX2_table cX2_table 3 (some .int)]
def wsL_law0_r18 : List Cond := [Cond.classLink RX2 166 RJx00060, Cond.instantiable RJx00060 6, Cond.initialized RJx00060, Cond.methodLink RX2 171 yX2_workRow, Cond.instanceMethod yX2_workRow, Cond.selects RX2 yX2_workRow yX2_workRow, Cond.code yX2_workRow cX2_workRow 4 none, Cond.fieldLink RX2 174 "FloorGraph" "rowsWorked" "I", Cond.methodLink RL 128 yX3_table, Cond.instanceMethod yX3_table, Cond.selects RX3 yX3_table yX3_table, Cond.code yX3_table cX3_table 3 (some .int), Cond.fieldLink RX3 141 "FloorGraphModel" "worked" "I", Cond.methodLink RL 129 yX2_rows, Cond.instanceMethod yX2_rows, Cond.selects RX2 yX2_rows yX2_rows, Cond.code yX2_rows cX2_rows 1 (some .int), Cond.methodLink RL 132 yX3_rows, Cond.instanceMethod yX3_rows, Cond.selects RX3 yX3_rows yX3_rows, Cond.code yX3_rows cX3_rows 1 (some .int), Cond.methodLink RL 133 yL_plain, Cond.static yL_plain, Cond.codeWith yL_plain cL_plain 8 (some .int) [(0, 16, 19, 13)]]
def wsL_law0_r19 : List Cond := [Cond.methodLink RL 65 yX2_plain, Cond.instanceMethod yX2_plain, Cond.selects RX2 yX2_plain yX2_plain, Cond.code yX2_plain cX2_plain 6 (some .int), Cond.instanceMethod yX0_waysBetween, Cond.selects RX0 yX0_waysBetween yX0_waysBetween, Cond.code yX0_waysBetween cX0_waysBetween 7 (some .int), Cond.methodLink RX0 78 yX0_waysOn, Cond.instanceMethod yX0_waysOn, Cond.selects RX0 yX0_waysOn yX0_waysOn, Cond.code yX0_waysOn cX0_waysOn 10 (some .int), Cond.methodLink RL 135 yX3_plain, Cond.instanceMethod yX3_plain, Cond.selects RX3 yX3_plain yX3_plain, Cond.code yX3_plain cX3_plain 9 (some .int), Cond.methodLink RX3 144 yX3_maySet, Cond.instanceMethod yX3_maySet, Cond.selects RX3 yX3_maySet yX3_maySet, Cond.code yX3_maySet cX3_maySet 13 (some .boolean), Cond.methodLink RL 136 yX2_count, Cond.instanceMethod yX2_count, Cond.selects RX2 yX2_count yX2_count, Cond.code yX2_count cX2_count 2 (some .int), Cond.methodLink RL 139 yX3_count]
def wsL_law0_r20 : List Cond := [Cond.instanceMethod yX3_count, Cond.selects RX3 yX3_count yX3_count, Cond.code yX3_count cX3_count 4 (some .int)]
def wsL_law0 : List Cond := (wsL_law0_r1 ++ (wsL_law0_r2 ++ (wsL_law0_r3 ++ (wsL_law0_r4 ++ (wsL_law0_r5 ++ (wsL_law0_r6 ++ (wsL_law0_r7 ++ (wsL_law0_r8 ++ (wsL_law0_r9 ++ (wsL_law0_r10 ++ (wsL_law0_r11 ++ (wsL_law0_r12 ++ (wsL_law0_r13 ++ (wsL_law0_r14 ++ (wsL_law0_r15 ++ (wsL_law0_r16 ++ (wsL_law0_r17 ++ (wsL_law0_r18 ++ (wsL_law0_r19 ++ wsL_law0_r20))))))))))))))))))) ++ wsX20 ++ wsX30 ++ wsX10 ++ wsX00 ++ wsJx000600 ++ ([] : List Cond)
def wsL_law : List Cond := wsL_law0 ++ (vx_atS RX2 45 "java/lang/IllegalArgumentException" ["java/lang/RuntimeException", "java/lang/Exception"]).filter goodWord ++ (vx_atS RX2 58 "java/lang/UnsupportedOperationException" ["java/lang/RuntimeException", "java/lang/Exception"]).filter goodWord ++ (vx_atS RX2 157 "java/lang/IllegalStateException" ["java/lang/RuntimeException", "java/lang/Exception"]).filter goodWord
abbrev vwCl : List vw_C := [(RJx00060, TJx00060, 6), (RX0, TX0, 3), (RX1, TX1, 14), (RX2, TX2, 12), (RX3, TX3, 24)]
end
section
theorem dX0_init_0 : decode cX0_init 0 = .ok (.aload_n 0, 1) := by decide +kernel
theorem dX0_init_1 : decode cX0_init 1 = .ok (.invokespecial 3, 3) := by decide +kernel
theorem dX0_init_4 : decode cX0_init 4 = .ok (.aload_n 0, 1) := by decide +kernel
theorem dX0_init_5 : decode cX0_init 5 = .ok (.bipush 80, 2) := by decide +kernel
theorem dX0_init_7 : decode cX0_init 7 = .ok (.newarray .boolean, 2) := by decide +kernel
theorem dX0_init_9 : decode cX0_init 9 = .ok (.putfield 9, 3) := by decide +kernel
theorem dX0_init_12 : decode cX0_init 12 = .ok (.aload_n 0, 1) := by decide +kernel
theorem dX0_init_13 : decode cX0_init 13 = .ok (.bipush 40, 2) := by decide +kernel
theorem dX0_init_15 : decode cX0_init 15 = .ok (.newarray .int, 2) := by decide +kernel
theorem dX0_init_17 : decode cX0_init 17 = .ok (.putfield 15, 3) := by decide +kernel
theorem dX0_init_20 : decode cX0_init 20 = .ok (.aload_n 0, 1) := by decide +kernel
theorem dX0_init_21 : decode cX0_init 21 = .ok (.bipush 20, 2) := by decide +kernel
theorem dX0_init_23 : decode cX0_init 23 = .ok (.newarray .boolean, 2) := by decide +kernel
theorem dX0_init_25 : decode cX0_init 25 = .ok (.putfield 19, 3) := by decide +kernel
theorem dX0_init_28 : decode cX0_init 28 = .ok (.return_, 1) := by decide +kernel
set_option maxRecDepth 20000 in
theorem ggX0_begin_X1_mayEnter : GoodIn wsX0_begin wsX1_mayEnter := goodIn_r _ [5, 6, 7, 8, 9, 10, 11, 12, 13, 14, 15, 16, 17, 18, 19, 20, 21, 22, 23] (by decide +kernel) (by decide +kernel)
set_option maxRecDepth 20000 in
theorem gX0_begin_X1_mayEnter_n34 : GoodIn wsX0_begin (wsX1_mayEnter) := ggX0_begin_X1_mayEnter
theorem dX0_begin_0 : decode cX0_begin 0 = .ok (.iconst 0, 1) := by decide +kernel
theorem dX0_begin_1 : decode cX0_begin 1 = .ok (.istore 4, 2) := by decide +kernel
theorem dX0_begin_3 : decode cX0_begin 3 = .ok (.iload 4, 2) := by decide +kernel
theorem dX0_begin_5 : decode cX0_begin 5 = .ok (.aload_n 1, 1) := by decide +kernel
theorem dX0_begin_6 : decode cX0_begin 6 = .ok (.getfield 22, 3) := by decide +kernel
theorem dX0_begin_9 : decode cX0_begin 9 = .ok (.if_icmp .ge 47, 3) := by decide +kernel
theorem dX0_begin_12 : decode cX0_begin 12 = .ok (.aload_n 0, 1) := by decide +kernel
theorem dX0_begin_13 : decode cX0_begin 13 = .ok (.getfield 9, 3) := by decide +kernel
theorem dX0_begin_16 : decode cX0_begin 16 = .ok (.iload 4, 2) := by decide +kernel
theorem dX0_begin_18 : decode cX0_begin 18 = .ok (.aload_n 1, 1) := by decide +kernel
theorem dX0_begin_19 : decode cX0_begin 19 = .ok (.getfield 28, 3) := by decide +kernel
theorem dX0_begin_22 : decode cX0_begin 22 = .ok (.iload 4, 2) := by decide +kernel
theorem dX0_begin_24 : decode cX0_begin 24 = .ok (.baload, 1) := by decide +kernel
theorem dX0_begin_25 : decode cX0_begin 25 = .ok (.ifCond .ne 23, 3) := by decide +kernel
theorem dX0_begin_28 : decode cX0_begin 28 = .ok (.aload_n 1, 1) := by decide +kernel
theorem dX0_begin_29 : decode cX0_begin 29 = .ok (.aload_n 1, 1) := by decide +kernel
theorem dX0_begin_30 : decode cX0_begin 30 = .ok (.getfield 31, 3) := by decide +kernel
theorem dX0_begin_33 : decode cX0_begin 33 = .ok (.iload 4, 2) := by decide +kernel
theorem dX0_begin_35 : decode cX0_begin 35 = .ok (.iaload, 1) := by decide +kernel
theorem dX0_begin_36 : decode cX0_begin 36 = .ok (.iload_n 2, 1) := by decide +kernel
theorem dX0_begin_37 : decode cX0_begin 37 = .ok (.iload_n 3, 1) := by decide +kernel
theorem dX0_begin_38 : decode cX0_begin 38 = .ok (.invokevirtual 34, 3) := by decide +kernel
theorem dX0_begin_41 : decode cX0_begin 41 = .ok (.ifCond .eq 7, 3) := by decide +kernel
theorem dX0_begin_44 : decode cX0_begin 44 = .ok (.iconst 1, 1) := by decide +kernel
theorem dX0_begin_45 : decode cX0_begin 45 = .ok (.goto 4, 3) := by decide +kernel
theorem dX0_begin_48 : decode cX0_begin 48 = .ok (.iconst 0, 1) := by decide +kernel
theorem dX0_begin_49 : decode cX0_begin 49 = .ok (.bastore, 1) := by decide +kernel
theorem dX0_begin_50 : decode cX0_begin 50 = .ok (.iinc 4 1, 3) := by decide +kernel
theorem dX0_begin_53 : decode cX0_begin 53 = .ok (.goto (-50), 3) := by decide +kernel
theorem dX0_begin_56 : decode cX0_begin 56 = .ok (.return_, 1) := by decide +kernel
set_option maxRecDepth 20000 in
theorem ggX0_spread_J7_fill_53178 : GoodIn wsX0_spread wsJ7_fill_53178 := goodIn_r _ [6] (by decide +kernel) (by decide +kernel)
set_option maxRecDepth 20000 in
theorem gX0_spread_J7_fill_53178 : GoodIn wsX0_spread (va_wsS RX0 39 yJ7_fill_53178 wsJ7_fill_53178) := goodIn_app (goodIn_of _ (by decide +kernel)) ggX0_spread_J7_fill_53178
set_option maxRecDepth 20000 in
theorem ggX0_spread_X1_mayLeave : GoodIn wsX0_spread wsX1_mayLeave := goodIn_r _ [10, 11, 29, 30, 31, 32, 33, 34, 35, 36, 37, 38, 39, 40, 41, 42] (by decide +kernel) (by decide +kernel)
set_option maxRecDepth 20000 in
theorem gX0_spread_X1_mayLeave_n45 : GoodIn wsX0_spread (wsX1_mayLeave) := ggX0_spread_X1_mayLeave
set_option maxRecDepth 20000 in
theorem ggX0_spread_X0_spreadOnce : GoodIn wsX0_spread wsX0_spreadOnce := goodIn_r _ [16, 1, 17, 18, 19, 15, 20, 2, 21, 22, 23, 24, 25, 29, 30, 31, 32, 33, 34, 35, 36, 37, 38, 39, 40, 41, 42, 26, 27, 28] (by decide +kernel) (by decide +kernel)
set_option maxRecDepth 20000 in
theorem gX0_spread_X0_spreadOnce : GoodIn wsX0_spread (wsV RX0 49 RX0 yX0_spreadOnce wsX0_spreadOnce) := goodIn_app (goodIn_of _ (by decide +kernel)) ggX0_spread_X0_spreadOnce
theorem dX0_spread_0 : decode cX0_spread 0 = .ok (.aload_n 0, 1) := by decide +kernel
theorem dX0_spread_1 : decode cX0_spread 1 = .ok (.getfield 15, 3) := by decide +kernel
theorem dX0_spread_4 : decode cX0_spread 4 = .ok (.ldc 38, 2) := by decide +kernel
theorem dX0_spread_6 : decode cX0_spread 6 = .ok (.invokestatic 39, 3) := by decide +kernel
theorem dX0_spread_9 : decode cX0_spread 9 = .ok (.iconst 2, 1) := by decide +kernel
theorem dX0_spread_10 : decode cX0_spread 10 = .ok (.iload_n 2, 1) := by decide +kernel
theorem dX0_spread_11 : decode cX0_spread 11 = .ok (.imul, 1) := by decide +kernel
theorem dX0_spread_12 : decode cX0_spread 12 = .ok (.istore_n 3, 1) := by decide +kernel
theorem dX0_spread_13 : decode cX0_spread 13 = .ok (.iload_n 3, 1) := by decide +kernel
theorem dX0_spread_14 : decode cX0_spread 14 = .ok (.iconst 2, 1) := by decide +kernel
theorem dX0_spread_15 : decode cX0_spread 15 = .ok (.iload_n 2, 1) := by decide +kernel
theorem dX0_spread_16 : decode cX0_spread 16 = .ok (.imul, 1) := by decide +kernel
theorem dX0_spread_17 : decode cX0_spread 17 = .ok (.iconst 1, 1) := by decide +kernel
theorem dX0_spread_18 : decode cX0_spread 18 = .ok (.iadd, 1) := by decide +kernel
theorem dX0_spread_19 : decode cX0_spread 19 = .ok (.if_icmp .gt 24, 3) := by decide +kernel
theorem dX0_spread_22 : decode cX0_spread 22 = .ok (.aload_n 1, 1) := by decide +kernel
theorem dX0_spread_23 : decode cX0_spread 23 = .ok (.iload_n 3, 1) := by decide +kernel
theorem dX0_spread_24 : decode cX0_spread 24 = .ok (.invokevirtual 45, 3) := by decide +kernel
theorem dX0_spread_27 : decode cX0_spread 27 = .ok (.ifCond .eq 10, 3) := by decide +kernel
theorem dX0_spread_30 : decode cX0_spread 30 = .ok (.aload_n 0, 1) := by decide +kernel
theorem dX0_spread_31 : decode cX0_spread 31 = .ok (.getfield 15, 3) := by decide +kernel
theorem dX0_spread_34 : decode cX0_spread 34 = .ok (.iload_n 3, 1) := by decide +kernel
theorem dX0_spread_35 : decode cX0_spread 35 = .ok (.iconst 0, 1) := by decide +kernel
theorem dX0_spread_36 : decode cX0_spread 36 = .ok (.iastore, 1) := by decide +kernel
theorem dX0_spread_37 : decode cX0_spread 37 = .ok (.iinc 3 1, 3) := by decide +kernel
theorem dX0_spread_40 : decode cX0_spread 40 = .ok (.goto (-27), 3) := by decide +kernel
theorem dX0_spread_43 : decode cX0_spread 43 = .ok (.iconst 1, 1) := by decide +kernel
theorem dX0_spread_44 : decode cX0_spread 44 = .ok (.istore_n 3, 1) := by decide +kernel
theorem dX0_spread_45 : decode cX0_spread 45 = .ok (.iconst 0, 1) := by decide +kernel
theorem dX0_spread_46 : decode cX0_spread 46 = .ok (.istore 4, 2) := by decide +kernel
theorem dX0_spread_48 : decode cX0_spread 48 = .ok (.iload_n 3, 1) := by decide +kernel
theorem dX0_spread_49 : decode cX0_spread 49 = .ok (.ifCond .eq 22, 3) := by decide +kernel
theorem dX0_spread_52 : decode cX0_spread 52 = .ok (.iload 4, 2) := by decide +kernel
theorem dX0_spread_54 : decode cX0_spread 54 = .ok (.bipush 40, 2) := by decide +kernel
theorem dX0_spread_56 : decode cX0_spread 56 = .ok (.if_icmp .ge 15, 3) := by decide +kernel
theorem dX0_spread_59 : decode cX0_spread 59 = .ok (.aload_n 0, 1) := by decide +kernel
theorem dX0_spread_60 : decode cX0_spread 60 = .ok (.aload_n 1, 1) := by decide +kernel
theorem dX0_spread_61 : decode cX0_spread 61 = .ok (.invokevirtual 49, 3) := by decide +kernel
theorem dX0_spread_64 : decode cX0_spread 64 = .ok (.istore_n 3, 1) := by decide +kernel
theorem dX0_spread_65 : decode cX0_spread 65 = .ok (.iinc 4 1, 3) := by decide +kernel
theorem dX0_spread_68 : decode cX0_spread 68 = .ok (.goto (-20), 3) := by decide +kernel
theorem dX0_spread_71 : decode cX0_spread 71 = .ok (.return_, 1) := by decide +kernel
set_option maxRecDepth 20000 in
theorem ggX0_spreadOnce_X0_secondBehind : GoodIn wsX0_spreadOnce wsX0_secondBehind := goodIn_r _ [6, 7, 8, 9, 10, 5, 11, 1, 12, 13, 14, 15, 16, 17, 18, 19, 20, 21, 22, 23, 24, 25, 26, 27, 28, 29] (by decide +kernel) (by decide +kernel)
set_option maxRecDepth 20000 in
theorem gX0_spreadOnce_X0_secondBehind : GoodIn wsX0_spreadOnce (wsV RX0 53 RX0 yX0_secondBehind wsX0_secondBehind) := goodIn_app (goodIn_of _ (by decide +kernel)) ggX0_spreadOnce_X0_secondBehind
theorem dX0_spreadOnce_0 : decode cX0_spreadOnce 0 = .ok (.iconst 0, 1) := by decide +kernel
theorem dX0_spreadOnce_1 : decode cX0_spreadOnce 1 = .ok (.istore_n 2, 1) := by decide +kernel
theorem dX0_spreadOnce_2 : decode cX0_spreadOnce 2 = .ok (.iconst 0, 1) := by decide +kernel
theorem dX0_spreadOnce_3 : decode cX0_spreadOnce 3 = .ok (.istore_n 3, 1) := by decide +kernel
theorem dX0_spreadOnce_4 : decode cX0_spreadOnce 4 = .ok (.iload_n 3, 1) := by decide +kernel
theorem dX0_spreadOnce_5 : decode cX0_spreadOnce 5 = .ok (.aload_n 1, 1) := by decide +kernel
theorem dX0_spreadOnce_6 : decode cX0_spreadOnce 6 = .ok (.getfield 22, 3) := by decide +kernel
theorem dX0_spreadOnce_9 : decode cX0_spreadOnce 9 = .ok (.if_icmp .ge 50, 3) := by decide +kernel
theorem dX0_spreadOnce_12 : decode cX0_spreadOnce 12 = .ok (.aload_n 1, 1) := by decide +kernel
theorem dX0_spreadOnce_13 : decode cX0_spreadOnce 13 = .ok (.getfield 31, 3) := by decide +kernel
theorem dX0_spreadOnce_16 : decode cX0_spreadOnce 16 = .ok (.iload_n 3, 1) := by decide +kernel
theorem dX0_spreadOnce_17 : decode cX0_spreadOnce 17 = .ok (.iaload, 1) := by decide +kernel
theorem dX0_spreadOnce_18 : decode cX0_spreadOnce 18 = .ok (.iconst 1, 1) := by decide +kernel
theorem dX0_spreadOnce_19 : decode cX0_spreadOnce 19 = .ok (.ixor, 1) := by decide +kernel
theorem dX0_spreadOnce_20 : decode cX0_spreadOnce 20 = .ok (.istore 4, 2) := by decide +kernel
theorem dX0_spreadOnce_22 : decode cX0_spreadOnce 22 = .ok (.aload_n 0, 1) := by decide +kernel
theorem dX0_spreadOnce_23 : decode cX0_spreadOnce 23 = .ok (.aload_n 1, 1) := by decide +kernel
theorem dX0_spreadOnce_24 : decode cX0_spreadOnce 24 = .ok (.iload_n 3, 1) := by decide +kernel
theorem dX0_spreadOnce_25 : decode cX0_spreadOnce 25 = .ok (.invokevirtual 53, 3) := by decide +kernel
theorem dX0_spreadOnce_28 : decode cX0_spreadOnce 28 = .ok (.istore 5, 2) := by decide +kernel
theorem dX0_spreadOnce_30 : decode cX0_spreadOnce 30 = .ok (.iload 5, 2) := by decide +kernel
theorem dX0_spreadOnce_32 : decode cX0_spreadOnce 32 = .ok (.aload_n 0, 1) := by decide +kernel
theorem dX0_spreadOnce_33 : decode cX0_spreadOnce 33 = .ok (.getfield 15, 3) := by decide +kernel
theorem dX0_spreadOnce_36 : decode cX0_spreadOnce 36 = .ok (.iload 4, 2) := by decide +kernel
theorem dX0_spreadOnce_38 : decode cX0_spreadOnce 38 = .ok (.iaload, 1) := by decide +kernel
theorem dX0_spreadOnce_39 : decode cX0_spreadOnce 39 = .ok (.if_icmp .ge 14, 3) := by decide +kernel
theorem dX0_spreadOnce_42 : decode cX0_spreadOnce 42 = .ok (.aload_n 0, 1) := by decide +kernel
theorem dX0_spreadOnce_43 : decode cX0_spreadOnce 43 = .ok (.getfield 15, 3) := by decide +kernel
theorem dX0_spreadOnce_46 : decode cX0_spreadOnce 46 = .ok (.iload 4, 2) := by decide +kernel
theorem dX0_spreadOnce_48 : decode cX0_spreadOnce 48 = .ok (.iload 5, 2) := by decide +kernel
theorem dX0_spreadOnce_50 : decode cX0_spreadOnce 50 = .ok (.iastore, 1) := by decide +kernel
theorem dX0_spreadOnce_51 : decode cX0_spreadOnce 51 = .ok (.iconst 1, 1) := by decide +kernel
theorem dX0_spreadOnce_52 : decode cX0_spreadOnce 52 = .ok (.istore_n 2, 1) := by decide +kernel
theorem dX0_spreadOnce_53 : decode cX0_spreadOnce 53 = .ok (.iinc 3 1, 3) := by decide +kernel
theorem dX0_spreadOnce_56 : decode cX0_spreadOnce 56 = .ok (.goto (-52), 3) := by decide +kernel
theorem dX0_spreadOnce_59 : decode cX0_spreadOnce 59 = .ok (.iload_n 2, 1) := by decide +kernel
theorem dX0_spreadOnce_60 : decode cX0_spreadOnce 60 = .ok (.ireturn, 1) := by decide +kernel
theorem dX0_secondAt_0 : decode cX0_secondAt 0 = .ok (.aload_n 0, 1) := by decide +kernel
theorem dX0_secondAt_1 : decode cX0_secondAt 1 = .ok (.getfield 15, 3) := by decide +kernel
theorem dX0_secondAt_4 : decode cX0_secondAt 4 = .ok (.aload_n 1, 1) := by decide +kernel
theorem dX0_secondAt_5 : decode cX0_secondAt 5 = .ok (.getfield 57, 3) := by decide +kernel
theorem dX0_secondAt_8 : decode cX0_secondAt 8 = .ok (.iload_n 2, 1) := by decide +kernel
theorem dX0_secondAt_9 : decode cX0_secondAt 9 = .ok (.iaload, 1) := by decide +kernel
theorem dX0_secondAt_10 : decode cX0_secondAt 10 = .ok (.iaload, 1) := by decide +kernel
theorem dX0_secondAt_11 : decode cX0_secondAt 11 = .ok (.istore_n 3, 1) := by decide +kernel
theorem dX0_secondAt_12 : decode cX0_secondAt 12 = .ok (.aload_n 0, 1) := by decide +kernel
theorem dX0_secondAt_13 : decode cX0_secondAt 13 = .ok (.getfield 9, 3) := by decide +kernel
theorem dX0_secondAt_16 : decode cX0_secondAt 16 = .ok (.iload_n 2, 1) := by decide +kernel
theorem dX0_secondAt_17 : decode cX0_secondAt 17 = .ok (.baload, 1) := by decide +kernel
theorem dX0_secondAt_18 : decode cX0_secondAt 18 = .ok (.ifCond .eq 9, 3) := by decide +kernel
theorem dX0_secondAt_21 : decode cX0_secondAt 21 = .ok (.iload_n 3, 1) := by decide +kernel
theorem dX0_secondAt_22 : decode cX0_secondAt 22 = .ok (.ldc 38, 2) := by decide +kernel
theorem dX0_secondAt_24 : decode cX0_secondAt 24 = .ok (.if_icmp .ne 6, 3) := by decide +kernel
theorem dX0_secondAt_27 : decode cX0_secondAt 27 = .ok (.ldc 38, 2) := by decide +kernel
theorem dX0_secondAt_29 : decode cX0_secondAt 29 = .ok (.ireturn, 1) := by decide +kernel
theorem dX0_secondAt_30 : decode cX0_secondAt 30 = .ok (.iload_n 3, 1) := by decide +kernel
theorem dX0_secondAt_31 : decode cX0_secondAt 31 = .ok (.aload_n 1, 1) := by decide +kernel
theorem dX0_secondAt_32 : decode cX0_secondAt 32 = .ok (.getfield 60, 3) := by decide +kernel
theorem dX0_secondAt_35 : decode cX0_secondAt 35 = .ok (.iload_n 2, 1) := by decide +kernel
theorem dX0_secondAt_36 : decode cX0_secondAt 36 = .ok (.iaload, 1) := by decide +kernel
theorem dX0_secondAt_37 : decode cX0_secondAt 37 = .ok (.iadd, 1) := by decide +kernel
theorem dX0_secondAt_38 : decode cX0_secondAt 38 = .ok (.ireturn, 1) := by decide +kernel
set_option maxRecDepth 20000 in
theorem ggX0_secondBehind_X0_secondAt : GoodIn wsX0_secondBehind wsX0_secondAt := goodIn_r _ [6, 7, 8, 1, 23, 24, 25, 9, 10, 11, 12, 13, 14, 15, 16, 17, 18, 19, 20, 21, 22] (by decide +kernel) (by decide +kernel)
set_option maxRecDepth 20000 in
theorem gX0_secondBehind_X0_secondAt : GoodIn wsX0_secondBehind (wsV RX0 63 RX0 yX0_secondAt wsX0_secondAt) := goodIn_app (goodIn_of _ (by decide +kernel)) ggX0_secondBehind_X0_secondAt
theorem dX0_secondBehind_0 : decode cX0_secondBehind 0 = .ok (.aload_n 0, 1) := by decide +kernel
theorem dX0_secondBehind_1 : decode cX0_secondBehind 1 = .ok (.aload_n 1, 1) := by decide +kernel
theorem dX0_secondBehind_2 : decode cX0_secondBehind 2 = .ok (.iload_n 2, 1) := by decide +kernel
theorem dX0_secondBehind_3 : decode cX0_secondBehind 3 = .ok (.invokevirtual 63, 3) := by decide +kernel
theorem dX0_secondBehind_6 : decode cX0_secondBehind 6 = .ok (.istore_n 3, 1) := by decide +kernel
theorem dX0_secondBehind_7 : decode cX0_secondBehind 7 = .ok (.iload_n 3, 1) := by decide +kernel
theorem dX0_secondBehind_8 : decode cX0_secondBehind 8 = .ok (.ldc 38, 2) := by decide +kernel
theorem dX0_secondBehind_10 : decode cX0_secondBehind 10 = .ok (.if_icmp .ne 6, 3) := by decide +kernel
theorem dX0_secondBehind_13 : decode cX0_secondBehind 13 = .ok (.ldc 38, 2) := by decide +kernel
theorem dX0_secondBehind_15 : decode cX0_secondBehind 15 = .ok (.ireturn, 1) := by decide +kernel
theorem dX0_secondBehind_16 : decode cX0_secondBehind 16 = .ok (.iload_n 3, 1) := by decide +kernel
theorem dX0_secondBehind_17 : decode cX0_secondBehind 17 = .ok (.aload_n 1, 1) := by decide +kernel
theorem dX0_secondBehind_18 : decode cX0_secondBehind 18 = .ok (.getfield 66, 3) := by decide +kernel
theorem dX0_secondBehind_21 : decode cX0_secondBehind 21 = .ok (.aload_n 1, 1) := by decide +kernel
theorem dX0_secondBehind_22 : decode cX0_secondBehind 22 = .ok (.getfield 31, 3) := by decide +kernel
theorem dX0_secondBehind_25 : decode cX0_secondBehind 25 = .ok (.iload_n 2, 1) := by decide +kernel
theorem dX0_secondBehind_26 : decode cX0_secondBehind 26 = .ok (.iaload, 1) := by decide +kernel
theorem dX0_secondBehind_27 : decode cX0_secondBehind 27 = .ok (.iconst 2, 1) := by decide +kernel
theorem dX0_secondBehind_28 : decode cX0_secondBehind 28 = .ok (.idiv, 1) := by decide +kernel
theorem dX0_secondBehind_29 : decode cX0_secondBehind 29 = .ok (.iaload, 1) := by decide +kernel
theorem dX0_secondBehind_30 : decode cX0_secondBehind 30 = .ok (.iadd, 1) := by decide +kernel
theorem dX0_secondBehind_31 : decode cX0_secondBehind 31 = .ok (.ireturn, 1) := by decide +kernel
set_option maxRecDepth 20000 in
theorem ggX0_secondsTo_X0_lastPassage : GoodIn wsX0_secondsTo wsX0_lastPassage := goodIn_r _ [5, 6, 7, 8, 9, 4, 10, 11, 12, 13, 14, 15, 16, 17, 18, 19, 20, 21, 22, 23, 24, 25, 26, 27, 28, 29] (by decide +kernel) (by decide +kernel)
set_option maxRecDepth 20000 in
theorem gX0_secondsTo_X0_lastPassage : GoodIn wsX0_secondsTo (wsV RX0 69 RX0 yX0_lastPassage wsX0_lastPassage) := goodIn_app (goodIn_of _ (by decide +kernel)) ggX0_secondsTo_X0_lastPassage
set_option maxRecDepth 20000 in
theorem ggX0_secondsTo_X0_secondAt : GoodIn wsX0_secondsTo wsX0_secondAt := goodIn_r _ [10, 11, 12, 6, 27, 28, 29, 13, 14, 15, 16, 17, 18, 19, 20, 21, 22, 23, 24, 25, 26] (by decide +kernel) (by decide +kernel)
set_option maxRecDepth 20000 in
theorem gX0_secondsTo_X0_secondAt : GoodIn wsX0_secondsTo (wsV RX0 63 RX0 yX0_secondAt wsX0_secondAt) := goodIn_app (goodIn_of _ (by decide +kernel)) ggX0_secondsTo_X0_secondAt
theorem dX0_secondsTo_0 : decode cX0_secondsTo 0 = .ok (.iload_n 2, 1) := by decide +kernel
theorem dX0_secondsTo_1 : decode cX0_secondsTo 1 = .ok (.iload_n 3, 1) := by decide +kernel
theorem dX0_secondsTo_2 : decode cX0_secondsTo 2 = .ok (.if_icmp .ne 5, 3) := by decide +kernel
theorem dX0_secondsTo_5 : decode cX0_secondsTo 5 = .ok (.iconst 0, 1) := by decide +kernel
theorem dX0_secondsTo_6 : decode cX0_secondsTo 6 = .ok (.ireturn, 1) := by decide +kernel
theorem dX0_secondsTo_7 : decode cX0_secondsTo 7 = .ok (.aload_n 0, 1) := by decide +kernel
theorem dX0_secondsTo_8 : decode cX0_secondsTo 8 = .ok (.aload_n 1, 1) := by decide +kernel
theorem dX0_secondsTo_9 : decode cX0_secondsTo 9 = .ok (.iload_n 3, 1) := by decide +kernel
theorem dX0_secondsTo_10 : decode cX0_secondsTo 10 = .ok (.invokevirtual 69, 3) := by decide +kernel
theorem dX0_secondsTo_13 : decode cX0_secondsTo 13 = .ok (.istore 4, 2) := by decide +kernel
theorem dX0_secondsTo_15 : decode cX0_secondsTo 15 = .ok (.iload 4, 2) := by decide +kernel
theorem dX0_secondsTo_17 : decode cX0_secondsTo 17 = .ok (.iconst (-1), 1) := by decide +kernel
theorem dX0_secondsTo_18 : decode cX0_secondsTo 18 = .ok (.if_icmp .ne 7, 3) := by decide +kernel
theorem dX0_secondsTo_21 : decode cX0_secondsTo 21 = .ok (.iconst (-1), 1) := by decide +kernel
theorem dX0_secondsTo_22 : decode cX0_secondsTo 22 = .ok (.goto 10, 3) := by decide +kernel
theorem dX0_secondsTo_25 : decode cX0_secondsTo 25 = .ok (.aload_n 0, 1) := by decide +kernel
theorem dX0_secondsTo_26 : decode cX0_secondsTo 26 = .ok (.aload_n 1, 1) := by decide +kernel
theorem dX0_secondsTo_27 : decode cX0_secondsTo 27 = .ok (.iload 4, 2) := by decide +kernel
theorem dX0_secondsTo_29 : decode cX0_secondsTo 29 = .ok (.invokevirtual 63, 3) := by decide +kernel
theorem dX0_secondsTo_32 : decode cX0_secondsTo 32 = .ok (.ireturn, 1) := by decide +kernel
set_option maxRecDepth 20000 in
theorem ggX0_lastPassage_X0_secondAt : GoodIn wsX0_lastPassage wsX0_secondAt := goodIn_r _ [6, 7, 8, 1, 23, 24, 25, 9, 10, 11, 12, 13, 14, 15, 16, 17, 18, 19, 20, 21, 22] (by decide +kernel) (by decide +kernel)
set_option maxRecDepth 20000 in
theorem gX0_lastPassage_X0_secondAt : GoodIn wsX0_lastPassage (wsV RX0 63 RX0 yX0_secondAt wsX0_secondAt) := goodIn_app (goodIn_of _ (by decide +kernel)) ggX0_lastPassage_X0_secondAt
theorem dX0_lastPassage_0 : decode cX0_lastPassage 0 = .ok (.iconst (-1), 1) := by decide +kernel
theorem dX0_lastPassage_1 : decode cX0_lastPassage 1 = .ok (.istore_n 3, 1) := by decide +kernel
theorem dX0_lastPassage_2 : decode cX0_lastPassage 2 = .ok (.ldc 38, 2) := by decide +kernel
theorem dX0_lastPassage_4 : decode cX0_lastPassage 4 = .ok (.istore 4, 2) := by decide +kernel
theorem dX0_lastPassage_6 : decode cX0_lastPassage 6 = .ok (.iconst 0, 1) := by decide +kernel
theorem dX0_lastPassage_7 : decode cX0_lastPassage 7 = .ok (.istore 5, 2) := by decide +kernel
theorem dX0_lastPassage_9 : decode cX0_lastPassage 9 = .ok (.iload 5, 2) := by decide +kernel
theorem dX0_lastPassage_11 : decode cX0_lastPassage 11 = .ok (.aload_n 1, 1) := by decide +kernel
theorem dX0_lastPassage_12 : decode cX0_lastPassage 12 = .ok (.getfield 22, 3) := by decide +kernel
theorem dX0_lastPassage_15 : decode cX0_lastPassage 15 = .ok (.if_icmp .ge 45, 3) := by decide +kernel
theorem dX0_lastPassage_18 : decode cX0_lastPassage 18 = .ok (.aload_n 1, 1) := by decide +kernel
theorem dX0_lastPassage_19 : decode cX0_lastPassage 19 = .ok (.getfield 31, 3) := by decide +kernel
theorem dX0_lastPassage_22 : decode cX0_lastPassage 22 = .ok (.iload 5, 2) := by decide +kernel
theorem dX0_lastPassage_24 : decode cX0_lastPassage 24 = .ok (.iaload, 1) := by decide +kernel
theorem dX0_lastPassage_25 : decode cX0_lastPassage 25 = .ok (.iconst 2, 1) := by decide +kernel
theorem dX0_lastPassage_26 : decode cX0_lastPassage 26 = .ok (.idiv, 1) := by decide +kernel
theorem dX0_lastPassage_27 : decode cX0_lastPassage 27 = .ok (.iload_n 2, 1) := by decide +kernel
theorem dX0_lastPassage_28 : decode cX0_lastPassage 28 = .ok (.if_icmp .ne 26, 3) := by decide +kernel
theorem dX0_lastPassage_31 : decode cX0_lastPassage 31 = .ok (.aload_n 0, 1) := by decide +kernel
theorem dX0_lastPassage_32 : decode cX0_lastPassage 32 = .ok (.aload_n 1, 1) := by decide +kernel
theorem dX0_lastPassage_33 : decode cX0_lastPassage 33 = .ok (.iload 5, 2) := by decide +kernel
theorem dX0_lastPassage_35 : decode cX0_lastPassage 35 = .ok (.invokevirtual 63, 3) := by decide +kernel
theorem dX0_lastPassage_38 : decode cX0_lastPassage 38 = .ok (.istore 6, 2) := by decide +kernel
theorem dX0_lastPassage_40 : decode cX0_lastPassage 40 = .ok (.iload 6, 2) := by decide +kernel
theorem dX0_lastPassage_42 : decode cX0_lastPassage 42 = .ok (.iload 4, 2) := by decide +kernel
theorem dX0_lastPassage_44 : decode cX0_lastPassage 44 = .ok (.if_icmp .ge 10, 3) := by decide +kernel
theorem dX0_lastPassage_47 : decode cX0_lastPassage 47 = .ok (.iload 5, 2) := by decide +kernel
theorem dX0_lastPassage_49 : decode cX0_lastPassage 49 = .ok (.istore_n 3, 1) := by decide +kernel
theorem dX0_lastPassage_50 : decode cX0_lastPassage 50 = .ok (.iload 6, 2) := by decide +kernel
theorem dX0_lastPassage_52 : decode cX0_lastPassage 52 = .ok (.istore 4, 2) := by decide +kernel
theorem dX0_lastPassage_54 : decode cX0_lastPassage 54 = .ok (.iinc 5 1, 3) := by decide +kernel
theorem dX0_lastPassage_57 : decode cX0_lastPassage 57 = .ok (.goto (-48), 3) := by decide +kernel
theorem dX0_lastPassage_60 : decode cX0_lastPassage 60 = .ok (.iload_n 3, 1) := by decide +kernel
theorem dX0_lastPassage_61 : decode cX0_lastPassage 61 = .ok (.ireturn, 1) := by decide +kernel
set_option maxRecDepth 20000 in
theorem ggX0_passageBefore_X0_secondBehind : GoodIn wsX0_passageBefore wsX0_secondBehind := goodIn_r _ [6, 7, 8, 9, 10, 5, 11, 1, 12, 16, 17, 18, 19, 20, 21, 22, 23, 24, 25, 26, 27, 28, 29, 13, 14, 15] (by decide +kernel) (by decide +kernel)
set_option maxRecDepth 20000 in
theorem gX0_passageBefore_X0_secondBehind : GoodIn wsX0_passageBefore (wsV RX0 53 RX0 yX0_secondBehind wsX0_secondBehind) := goodIn_app (goodIn_of _ (by decide +kernel)) ggX0_passageBefore_X0_secondBehind
theorem dX0_passageBefore_0 : decode cX0_passageBefore 0 = .ok (.aload_n 0, 1) := by decide +kernel
theorem dX0_passageBefore_1 : decode cX0_passageBefore 1 = .ok (.getfield 15, 3) := by decide +kernel
theorem dX0_passageBefore_4 : decode cX0_passageBefore 4 = .ok (.iload_n 2, 1) := by decide +kernel
theorem dX0_passageBefore_5 : decode cX0_passageBefore 5 = .ok (.iaload, 1) := by decide +kernel
theorem dX0_passageBefore_6 : decode cX0_passageBefore 6 = .ok (.ifCond .ne 5, 3) := by decide +kernel
theorem dX0_passageBefore_9 : decode cX0_passageBefore 9 = .ok (.iconst (-1), 1) := by decide +kernel
theorem dX0_passageBefore_10 : decode cX0_passageBefore 10 = .ok (.ireturn, 1) := by decide +kernel
theorem dX0_passageBefore_11 : decode cX0_passageBefore 11 = .ok (.iconst 0, 1) := by decide +kernel
theorem dX0_passageBefore_12 : decode cX0_passageBefore 12 = .ok (.istore_n 3, 1) := by decide +kernel
theorem dX0_passageBefore_13 : decode cX0_passageBefore 13 = .ok (.iload_n 3, 1) := by decide +kernel
theorem dX0_passageBefore_14 : decode cX0_passageBefore 14 = .ok (.aload_n 1, 1) := by decide +kernel
theorem dX0_passageBefore_15 : decode cX0_passageBefore 15 = .ok (.getfield 22, 3) := by decide +kernel
theorem dX0_passageBefore_18 : decode cX0_passageBefore 18 = .ok (.if_icmp .ge 38, 3) := by decide +kernel
theorem dX0_passageBefore_21 : decode cX0_passageBefore 21 = .ok (.aload_n 1, 1) := by decide +kernel
theorem dX0_passageBefore_22 : decode cX0_passageBefore 22 = .ok (.getfield 31, 3) := by decide +kernel
theorem dX0_passageBefore_25 : decode cX0_passageBefore 25 = .ok (.iload_n 3, 1) := by decide +kernel
theorem dX0_passageBefore_26 : decode cX0_passageBefore 26 = .ok (.iaload, 1) := by decide +kernel
theorem dX0_passageBefore_27 : decode cX0_passageBefore 27 = .ok (.iload_n 2, 1) := by decide +kernel
theorem dX0_passageBefore_28 : decode cX0_passageBefore 28 = .ok (.iconst 1, 1) := by decide +kernel
theorem dX0_passageBefore_29 : decode cX0_passageBefore 29 = .ok (.ixor, 1) := by decide +kernel
theorem dX0_passageBefore_30 : decode cX0_passageBefore 30 = .ok (.if_icmp .ne 20, 3) := by decide +kernel
theorem dX0_passageBefore_33 : decode cX0_passageBefore 33 = .ok (.aload_n 0, 1) := by decide +kernel
theorem dX0_passageBefore_34 : decode cX0_passageBefore 34 = .ok (.aload_n 1, 1) := by decide +kernel
theorem dX0_passageBefore_35 : decode cX0_passageBefore 35 = .ok (.iload_n 3, 1) := by decide +kernel
theorem dX0_passageBefore_36 : decode cX0_passageBefore 36 = .ok (.invokevirtual 53, 3) := by decide +kernel
theorem dX0_passageBefore_39 : decode cX0_passageBefore 39 = .ok (.aload_n 0, 1) := by decide +kernel
theorem dX0_passageBefore_40 : decode cX0_passageBefore 40 = .ok (.getfield 15, 3) := by decide +kernel
theorem dX0_passageBefore_43 : decode cX0_passageBefore 43 = .ok (.iload_n 2, 1) := by decide +kernel
theorem dX0_passageBefore_44 : decode cX0_passageBefore 44 = .ok (.iaload, 1) := by decide +kernel
theorem dX0_passageBefore_45 : decode cX0_passageBefore 45 = .ok (.if_icmp .ne 5, 3) := by decide +kernel
theorem dX0_passageBefore_48 : decode cX0_passageBefore 48 = .ok (.iload_n 3, 1) := by decide +kernel
theorem dX0_passageBefore_49 : decode cX0_passageBefore 49 = .ok (.ireturn, 1) := by decide +kernel
theorem dX0_passageBefore_50 : decode cX0_passageBefore 50 = .ok (.iinc 3 1, 3) := by decide +kernel
theorem dX0_passageBefore_53 : decode cX0_passageBefore 53 = .ok (.goto (-40), 3) := by decide +kernel
theorem dX0_passageBefore_56 : decode cX0_passageBefore 56 = .ok (.iconst (-1), 1) := by decide +kernel
theorem dX0_passageBefore_57 : decode cX0_passageBefore 57 = .ok (.ireturn, 1) := by decide +kernel
set_option maxRecDepth 20000 in
theorem ggX0_trace_X0_lastPassage : GoodIn wsX0_trace wsX0_lastPassage := goodIn_r _ [5, 6, 7, 8, 9, 4, 10, 11, 12, 21, 22, 23, 24, 25, 26, 27, 28, 29, 30, 31, 32, 33, 34, 35, 36, 37] (by decide +kernel) (by decide +kernel)
set_option maxRecDepth 20000 in
theorem gX0_trace_X0_lastPassage : GoodIn wsX0_trace (wsV RX0 69 RX0 yX0_lastPassage wsX0_lastPassage) := goodIn_app (goodIn_of _ (by decide +kernel)) ggX0_trace_X0_lastPassage
set_option maxRecDepth 20000 in
theorem ggX0_trace_X0_passageBefore : GoodIn wsX0_trace wsX0_passageBefore := goodIn_r _ [16, 11, 17, 18, 19, 4, 20, 6, 7, 8, 9, 10, 12, 35, 36, 37, 21, 22, 23, 24, 25, 26, 27, 28, 29, 30, 31, 32, 33, 34] (by decide +kernel) (by decide +kernel)
set_option maxRecDepth 20000 in
theorem gX0_trace_X0_passageBefore : GoodIn wsX0_trace (wsV RX0 72 RX0 yX0_passageBefore wsX0_passageBefore) := goodIn_app (goodIn_of _ (by decide +kernel)) ggX0_trace_X0_passageBefore
theorem dX0_trace_0 : decode cX0_trace 0 = .ok (.iload_n 2, 1) := by decide +kernel
theorem dX0_trace_1 : decode cX0_trace 1 = .ok (.iload_n 3, 1) := by decide +kernel
theorem dX0_trace_2 : decode cX0_trace 2 = .ok (.if_icmp .ne 10, 3) := by decide +kernel
theorem dX0_trace_5 : decode cX0_trace 5 = .ok (.aload 4, 2) := by decide +kernel
theorem dX0_trace_7 : decode cX0_trace 7 = .ok (.iconst 0, 1) := by decide +kernel
theorem dX0_trace_8 : decode cX0_trace 8 = .ok (.iload_n 3, 1) := by decide +kernel
theorem dX0_trace_9 : decode cX0_trace 9 = .ok (.iastore, 1) := by decide +kernel
theorem dX0_trace_10 : decode cX0_trace 10 = .ok (.iconst 1, 1) := by decide +kernel
theorem dX0_trace_11 : decode cX0_trace 11 = .ok (.ireturn, 1) := by decide +kernel
theorem dX0_trace_12 : decode cX0_trace 12 = .ok (.aload_n 0, 1) := by decide +kernel
theorem dX0_trace_13 : decode cX0_trace 13 = .ok (.aload_n 1, 1) := by decide +kernel
theorem dX0_trace_14 : decode cX0_trace 14 = .ok (.iload_n 3, 1) := by decide +kernel
theorem dX0_trace_15 : decode cX0_trace 15 = .ok (.invokevirtual 69, 3) := by decide +kernel
theorem dX0_trace_18 : decode cX0_trace 18 = .ok (.istore 5, 2) := by decide +kernel
theorem dX0_trace_20 : decode cX0_trace 20 = .ok (.iload 5, 2) := by decide +kernel
theorem dX0_trace_22 : decode cX0_trace 22 = .ok (.iconst (-1), 1) := by decide +kernel
theorem dX0_trace_23 : decode cX0_trace 23 = .ok (.if_icmp .ne 5, 3) := by decide +kernel
theorem dX0_trace_26 : decode cX0_trace 26 = .ok (.iconst 0, 1) := by decide +kernel
theorem dX0_trace_27 : decode cX0_trace 27 = .ok (.ireturn, 1) := by decide +kernel
theorem dX0_trace_28 : decode cX0_trace 28 = .ok (.aload 4, 2) := by decide +kernel
theorem dX0_trace_30 : decode cX0_trace 30 = .ok (.iconst 0, 1) := by decide +kernel
theorem dX0_trace_31 : decode cX0_trace 31 = .ok (.iload_n 3, 1) := by decide +kernel
theorem dX0_trace_32 : decode cX0_trace 32 = .ok (.iastore, 1) := by decide +kernel
theorem dX0_trace_33 : decode cX0_trace 33 = .ok (.iconst 1, 1) := by decide +kernel
theorem dX0_trace_34 : decode cX0_trace 34 = .ok (.istore 6, 2) := by decide +kernel
theorem dX0_trace_36 : decode cX0_trace 36 = .ok (.iload 5, 2) := by decide +kernel
theorem dX0_trace_38 : decode cX0_trace 38 = .ok (.iconst (-1), 1) := by decide +kernel
theorem dX0_trace_39 : decode cX0_trace 39 = .ok (.if_icmp .eq 44, 3) := by decide +kernel
theorem dX0_trace_42 : decode cX0_trace 42 = .ok (.iload 6, 2) := by decide +kernel
theorem dX0_trace_44 : decode cX0_trace 44 = .ok (.aload 4, 2) := by decide +kernel
theorem dX0_trace_46 : decode cX0_trace 46 = .ok (.arraylength, 1) := by decide +kernel
theorem dX0_trace_47 : decode cX0_trace 47 = .ok (.if_icmp .ge 36, 3) := by decide +kernel
theorem dX0_trace_50 : decode cX0_trace 50 = .ok (.aload_n 1, 1) := by decide +kernel
theorem dX0_trace_51 : decode cX0_trace 51 = .ok (.getfield 57, 3) := by decide +kernel
theorem dX0_trace_54 : decode cX0_trace 54 = .ok (.iload 5, 2) := by decide +kernel
theorem dX0_trace_56 : decode cX0_trace 56 = .ok (.iaload, 1) := by decide +kernel
theorem dX0_trace_57 : decode cX0_trace 57 = .ok (.istore 7, 2) := by decide +kernel
theorem dX0_trace_59 : decode cX0_trace 59 = .ok (.aload 4, 2) := by decide +kernel
theorem dX0_trace_61 : decode cX0_trace 61 = .ok (.iload 6, 2) := by decide +kernel
theorem dX0_trace_63 : decode cX0_trace 63 = .ok (.iload 7, 2) := by decide +kernel
theorem dX0_trace_65 : decode cX0_trace 65 = .ok (.iconst 2, 1) := by decide +kernel
theorem dX0_trace_66 : decode cX0_trace 66 = .ok (.idiv, 1) := by decide +kernel
theorem dX0_trace_67 : decode cX0_trace 67 = .ok (.iastore, 1) := by decide +kernel
theorem dX0_trace_68 : decode cX0_trace 68 = .ok (.iinc 6 1, 3) := by decide +kernel
theorem dX0_trace_71 : decode cX0_trace 71 = .ok (.aload_n 0, 1) := by decide +kernel
theorem dX0_trace_72 : decode cX0_trace 72 = .ok (.aload_n 1, 1) := by decide +kernel
theorem dX0_trace_73 : decode cX0_trace 73 = .ok (.iload 7, 2) := by decide +kernel
theorem dX0_trace_75 : decode cX0_trace 75 = .ok (.invokevirtual 72, 3) := by decide +kernel
theorem dX0_trace_78 : decode cX0_trace 78 = .ok (.istore 5, 2) := by decide +kernel
theorem dX0_trace_80 : decode cX0_trace 80 = .ok (.goto (-44), 3) := by decide +kernel
theorem dX0_trace_83 : decode cX0_trace 83 = .ok (.iload 6, 2) := by decide +kernel
theorem dX0_trace_85 : decode cX0_trace 85 = .ok (.ireturn, 1) := by decide +kernel
set_option maxRecDepth 20000 in
theorem ggX0_waysBetween_X1_mayLeave : GoodIn wsX0_waysBetween wsX1_mayLeave := goodIn_r _ [5, 6, 13, 14, 15, 16, 17, 18, 19, 20, 21, 22, 23, 24, 25, 26] (by decide +kernel) (by decide +kernel)
set_option maxRecDepth 20000 in
theorem gX0_waysBetween_X1_mayLeave_n45 : GoodIn wsX0_waysBetween (wsX1_mayLeave) := ggX0_waysBetween_X1_mayLeave
set_option maxRecDepth 20000 in
theorem ggX0_waysBetween_X0_waysOn : GoodIn wsX0_waysBetween wsX0_waysOn := goodIn_r _ [11, 12, 1, 7, 8, 9, 10, 13, 14, 15, 16, 17, 18, 19, 20, 21, 22, 23, 24, 25, 26, 27, 28, 29] (by decide +kernel) (by decide +kernel)
set_option maxRecDepth 20000 in
theorem gX0_waysBetween_X0_waysOn : GoodIn wsX0_waysBetween (wsV RX0 78 RX0 yX0_waysOn wsX0_waysOn) := goodIn_app (goodIn_of _ (by decide +kernel)) ggX0_waysBetween_X0_waysOn
theorem dX0_waysBetween_0 : decode cX0_waysBetween 0 = .ok (.iconst 0, 1) := by decide +kernel
theorem dX0_waysBetween_1 : decode cX0_waysBetween 1 = .ok (.istore 5, 2) := by decide +kernel
theorem dX0_waysBetween_3 : decode cX0_waysBetween 3 = .ok (.iload 5, 2) := by decide +kernel
theorem dX0_waysBetween_5 : decode cX0_waysBetween 5 = .ok (.aload_n 1, 1) := by decide +kernel
theorem dX0_waysBetween_6 : decode cX0_waysBetween 6 = .ok (.getfield 75, 3) := by decide +kernel
theorem dX0_waysBetween_9 : decode cX0_waysBetween 9 = .ok (.if_icmp .ge 27, 3) := by decide +kernel
theorem dX0_waysBetween_12 : decode cX0_waysBetween 12 = .ok (.aload_n 0, 1) := by decide +kernel
theorem dX0_waysBetween_13 : decode cX0_waysBetween 13 = .ok (.getfield 19, 3) := by decide +kernel
theorem dX0_waysBetween_16 : decode cX0_waysBetween 16 = .ok (.iload 5, 2) := by decide +kernel
theorem dX0_waysBetween_18 : decode cX0_waysBetween 18 = .ok (.iload 5, 2) := by decide +kernel
theorem dX0_waysBetween_20 : decode cX0_waysBetween 20 = .ok (.iload_n 2, 1) := by decide +kernel
theorem dX0_waysBetween_21 : decode cX0_waysBetween 21 = .ok (.if_icmp .ne 7, 3) := by decide +kernel
theorem dX0_waysBetween_24 : decode cX0_waysBetween 24 = .ok (.iconst 1, 1) := by decide +kernel
theorem dX0_waysBetween_25 : decode cX0_waysBetween 25 = .ok (.goto 4, 3) := by decide +kernel
theorem dX0_waysBetween_28 : decode cX0_waysBetween 28 = .ok (.iconst 0, 1) := by decide +kernel
theorem dX0_waysBetween_29 : decode cX0_waysBetween 29 = .ok (.bastore, 1) := by decide +kernel
theorem dX0_waysBetween_30 : decode cX0_waysBetween 30 = .ok (.iinc 5 1, 3) := by decide +kernel
theorem dX0_waysBetween_33 : decode cX0_waysBetween 33 = .ok (.goto (-30), 3) := by decide +kernel
theorem dX0_waysBetween_36 : decode cX0_waysBetween 36 = .ok (.iconst 0, 1) := by decide +kernel
theorem dX0_waysBetween_37 : decode cX0_waysBetween 37 = .ok (.istore 5, 2) := by decide +kernel
theorem dX0_waysBetween_39 : decode cX0_waysBetween 39 = .ok (.iconst 2, 1) := by decide +kernel
theorem dX0_waysBetween_40 : decode cX0_waysBetween 40 = .ok (.iload_n 2, 1) := by decide +kernel
theorem dX0_waysBetween_41 : decode cX0_waysBetween 41 = .ok (.imul, 1) := by decide +kernel
theorem dX0_waysBetween_42 : decode cX0_waysBetween 42 = .ok (.istore 6, 2) := by decide +kernel
theorem dX0_waysBetween_44 : decode cX0_waysBetween 44 = .ok (.iload 6, 2) := by decide +kernel
theorem dX0_waysBetween_46 : decode cX0_waysBetween 46 = .ok (.iconst 2, 1) := by decide +kernel
theorem dX0_waysBetween_47 : decode cX0_waysBetween 47 = .ok (.iload_n 2, 1) := by decide +kernel
theorem dX0_waysBetween_48 : decode cX0_waysBetween 48 = .ok (.imul, 1) := by decide +kernel
theorem dX0_waysBetween_49 : decode cX0_waysBetween 49 = .ok (.iconst 1, 1) := by decide +kernel
theorem dX0_waysBetween_50 : decode cX0_waysBetween 50 = .ok (.iadd, 1) := by decide +kernel
theorem dX0_waysBetween_51 : decode cX0_waysBetween 51 = .ok (.if_icmp .gt 33, 3) := by decide +kernel
theorem dX0_waysBetween_54 : decode cX0_waysBetween 54 = .ok (.aload_n 1, 1) := by decide +kernel
theorem dX0_waysBetween_55 : decode cX0_waysBetween 55 = .ok (.iload 6, 2) := by decide +kernel
theorem dX0_waysBetween_57 : decode cX0_waysBetween 57 = .ok (.invokevirtual 45, 3) := by decide +kernel
theorem dX0_waysBetween_60 : decode cX0_waysBetween 60 = .ok (.ifCond .eq 18, 3) := by decide +kernel
theorem dX0_waysBetween_63 : decode cX0_waysBetween 63 = .ok (.iload 5, 2) := by decide +kernel
theorem dX0_waysBetween_65 : decode cX0_waysBetween 65 = .ok (.aload_n 0, 1) := by decide +kernel
theorem dX0_waysBetween_66 : decode cX0_waysBetween 66 = .ok (.aload_n 1, 1) := by decide +kernel
theorem dX0_waysBetween_67 : decode cX0_waysBetween 67 = .ok (.iload 6, 2) := by decide +kernel
theorem dX0_waysBetween_69 : decode cX0_waysBetween 69 = .ok (.iload_n 3, 1) := by decide +kernel
theorem dX0_waysBetween_70 : decode cX0_waysBetween 70 = .ok (.iload 4, 2) := by decide +kernel
theorem dX0_waysBetween_72 : decode cX0_waysBetween 72 = .ok (.invokevirtual 78, 3) := by decide +kernel
theorem dX0_waysBetween_75 : decode cX0_waysBetween 75 = .ok (.iadd, 1) := by decide +kernel
theorem dX0_waysBetween_76 : decode cX0_waysBetween 76 = .ok (.istore 5, 2) := by decide +kernel
theorem dX0_waysBetween_78 : decode cX0_waysBetween 78 = .ok (.iinc 6 1, 3) := by decide +kernel
theorem dX0_waysBetween_81 : decode cX0_waysBetween 81 = .ok (.goto (-37), 3) := by decide +kernel
theorem dX0_waysBetween_84 : decode cX0_waysBetween 84 = .ok (.iload 5, 2) := by decide +kernel
theorem dX0_waysBetween_86 : decode cX0_waysBetween 86 = .ok (.ireturn, 1) := by decide +kernel
set_option maxRecDepth 20000 in
theorem ggX0_waysOn_X0_waysOn : GoodIn wsX0_waysOn wsX0_waysOn := goodIn_r _ [0, 1, 2, 3, 4, 5, 6, 7, 8, 9, 10, 11, 12, 13, 14, 15, 16, 17, 18, 19, 20, 21, 22, 23] (by decide +kernel) (by decide +kernel)
set_option maxRecDepth 20000 in
theorem gX0_waysOn_X0_waysOn : GoodIn wsX0_waysOn (wsV RX0 78 RX0 yX0_waysOn wsX0_waysOn) := goodIn_app (goodIn_of _ (by decide +kernel)) ggX0_waysOn_X0_waysOn
theorem dX0_waysOn_0 : decode cX0_waysOn 0 = .ok (.iconst 0, 1) := by decide +kernel
theorem dX0_waysOn_1 : decode cX0_waysOn 1 = .ok (.istore 5, 2) := by decide +kernel
theorem dX0_waysOn_3 : decode cX0_waysOn 3 = .ok (.iconst 0, 1) := by decide +kernel
theorem dX0_waysOn_4 : decode cX0_waysOn 4 = .ok (.istore 6, 2) := by decide +kernel
theorem dX0_waysOn_6 : decode cX0_waysOn 6 = .ok (.iload 6, 2) := by decide +kernel
theorem dX0_waysOn_8 : decode cX0_waysOn 8 = .ok (.aload_n 1, 1) := by decide +kernel
theorem dX0_waysOn_9 : decode cX0_waysOn 9 = .ok (.getfield 82, 3) := by decide +kernel
theorem dX0_waysOn_12 : decode cX0_waysOn 12 = .ok (.iload_n 2, 1) := by decide +kernel
theorem dX0_waysOn_13 : decode cX0_waysOn 13 = .ok (.iaload, 1) := by decide +kernel
theorem dX0_waysOn_14 : decode cX0_waysOn 14 = .ok (.if_icmp .ge 110, 3) := by decide +kernel
theorem dX0_waysOn_17 : decode cX0_waysOn 17 = .ok (.aload_n 1, 1) := by decide +kernel
theorem dX0_waysOn_18 : decode cX0_waysOn 18 = .ok (.getfield 85, 3) := by decide +kernel
theorem dX0_waysOn_21 : decode cX0_waysOn 21 = .ok (.iload_n 2, 1) := by decide +kernel
theorem dX0_waysOn_22 : decode cX0_waysOn 22 = .ok (.aaload, 1) := by decide +kernel
theorem dX0_waysOn_23 : decode cX0_waysOn 23 = .ok (.iload 6, 2) := by decide +kernel
theorem dX0_waysOn_25 : decode cX0_waysOn 25 = .ok (.iaload, 1) := by decide +kernel
theorem dX0_waysOn_26 : decode cX0_waysOn 26 = .ok (.istore 7, 2) := by decide +kernel
theorem dX0_waysOn_28 : decode cX0_waysOn 28 = .ok (.aload_n 1, 1) := by decide +kernel
theorem dX0_waysOn_29 : decode cX0_waysOn 29 = .ok (.getfield 31, 3) := by decide +kernel
theorem dX0_waysOn_32 : decode cX0_waysOn 32 = .ok (.iload 7, 2) := by decide +kernel
theorem dX0_waysOn_34 : decode cX0_waysOn 34 = .ok (.iaload, 1) := by decide +kernel
theorem dX0_waysOn_35 : decode cX0_waysOn 35 = .ok (.istore 8, 2) := by decide +kernel
theorem dX0_waysOn_37 : decode cX0_waysOn 37 = .ok (.iload 8, 2) := by decide +kernel
theorem dX0_waysOn_39 : decode cX0_waysOn 39 = .ok (.iconst 2, 1) := by decide +kernel
theorem dX0_waysOn_40 : decode cX0_waysOn 40 = .ok (.idiv, 1) := by decide +kernel
theorem dX0_waysOn_41 : decode cX0_waysOn 41 = .ok (.istore 9, 2) := by decide +kernel
theorem dX0_waysOn_43 : decode cX0_waysOn 43 = .ok (.aload_n 0, 1) := by decide +kernel
theorem dX0_waysOn_44 : decode cX0_waysOn 44 = .ok (.getfield 9, 3) := by decide +kernel
theorem dX0_waysOn_47 : decode cX0_waysOn 47 = .ok (.iload 7, 2) := by decide +kernel
theorem dX0_waysOn_49 : decode cX0_waysOn 49 = .ok (.baload, 1) := by decide +kernel
theorem dX0_waysOn_50 : decode cX0_waysOn 50 = .ok (.ifCond .eq 68, 3) := by decide +kernel
theorem dX0_waysOn_53 : decode cX0_waysOn 53 = .ok (.aload_n 0, 1) := by decide +kernel
theorem dX0_waysOn_54 : decode cX0_waysOn 54 = .ok (.getfield 19, 3) := by decide +kernel
theorem dX0_waysOn_57 : decode cX0_waysOn 57 = .ok (.iload 9, 2) := by decide +kernel
theorem dX0_waysOn_59 : decode cX0_waysOn 59 = .ok (.baload, 1) := by decide +kernel
theorem dX0_waysOn_60 : decode cX0_waysOn 60 = .ok (.ifCond .eq 6, 3) := by decide +kernel
theorem dX0_waysOn_63 : decode cX0_waysOn 63 = .ok (.goto 55, 3) := by decide +kernel
theorem dX0_waysOn_66 : decode cX0_waysOn 66 = .ok (.iload 9, 2) := by decide +kernel
theorem dX0_waysOn_68 : decode cX0_waysOn 68 = .ok (.iload_n 3, 1) := by decide +kernel
theorem dX0_waysOn_69 : decode cX0_waysOn 69 = .ok (.if_icmp .ne 9, 3) := by decide +kernel
theorem dX0_waysOn_72 : decode cX0_waysOn 72 = .ok (.iinc 5 1, 3) := by decide +kernel
theorem dX0_waysOn_75 : decode cX0_waysOn 75 = .ok (.goto 43, 3) := by decide +kernel
theorem dX0_waysOn_78 : decode cX0_waysOn 78 = .ok (.iload 4, 2) := by decide +kernel
theorem dX0_waysOn_80 : decode cX0_waysOn 80 = .ok (.ifCond .le 38, 3) := by decide +kernel
theorem dX0_waysOn_83 : decode cX0_waysOn 83 = .ok (.aload_n 0, 1) := by decide +kernel
theorem dX0_waysOn_84 : decode cX0_waysOn 84 = .ok (.getfield 19, 3) := by decide +kernel
theorem dX0_waysOn_87 : decode cX0_waysOn 87 = .ok (.iload 9, 2) := by decide +kernel
theorem dX0_waysOn_89 : decode cX0_waysOn 89 = .ok (.iconst 1, 1) := by decide +kernel
theorem dX0_waysOn_90 : decode cX0_waysOn 90 = .ok (.bastore, 1) := by decide +kernel
theorem dX0_waysOn_91 : decode cX0_waysOn 91 = .ok (.iload 5, 2) := by decide +kernel
theorem dX0_waysOn_93 : decode cX0_waysOn 93 = .ok (.aload_n 0, 1) := by decide +kernel
theorem dX0_waysOn_94 : decode cX0_waysOn 94 = .ok (.aload_n 1, 1) := by decide +kernel
theorem dX0_waysOn_95 : decode cX0_waysOn 95 = .ok (.iload 8, 2) := by decide +kernel
theorem dX0_waysOn_97 : decode cX0_waysOn 97 = .ok (.iconst 1, 1) := by decide +kernel
theorem dX0_waysOn_98 : decode cX0_waysOn 98 = .ok (.ixor, 1) := by decide +kernel
theorem dX0_waysOn_99 : decode cX0_waysOn 99 = .ok (.iload_n 3, 1) := by decide +kernel
theorem dX0_waysOn_100 : decode cX0_waysOn 100 = .ok (.iload 4, 2) := by decide +kernel
theorem dX0_waysOn_102 : decode cX0_waysOn 102 = .ok (.iconst 1, 1) := by decide +kernel
theorem dX0_waysOn_103 : decode cX0_waysOn 103 = .ok (.isub, 1) := by decide +kernel
theorem dX0_waysOn_104 : decode cX0_waysOn 104 = .ok (.invokevirtual 78, 3) := by decide +kernel
theorem dX0_waysOn_107 : decode cX0_waysOn 107 = .ok (.iadd, 1) := by decide +kernel
theorem dX0_waysOn_108 : decode cX0_waysOn 108 = .ok (.istore 5, 2) := by decide +kernel
theorem dX0_waysOn_110 : decode cX0_waysOn 110 = .ok (.aload_n 0, 1) := by decide +kernel
theorem dX0_waysOn_111 : decode cX0_waysOn 111 = .ok (.getfield 19, 3) := by decide +kernel
theorem dX0_waysOn_114 : decode cX0_waysOn 114 = .ok (.iload 9, 2) := by decide +kernel
theorem dX0_waysOn_116 : decode cX0_waysOn 116 = .ok (.iconst 0, 1) := by decide +kernel
theorem dX0_waysOn_117 : decode cX0_waysOn 117 = .ok (.bastore, 1) := by decide +kernel
theorem dX0_waysOn_118 : decode cX0_waysOn 118 = .ok (.iinc 6 1, 3) := by decide +kernel
theorem dX0_waysOn_121 : decode cX0_waysOn 121 = .ok (.goto (-115), 3) := by decide +kernel
theorem dX0_waysOn_124 : decode cX0_waysOn 124 = .ok (.iload 5, 2) := by decide +kernel
theorem dX0_waysOn_126 : decode cX0_waysOn 126 = .ok (.ireturn, 1) := by decide +kernel
theorem dX1_init_0 : decode cX1_init 0 = .ok (.aload_n 0, 1) := by decide +kernel
theorem dX1_init_1 : decode cX1_init 1 = .ok (.invokespecial 3, 3) := by decide +kernel
theorem dX1_init_4 : decode cX1_init 4 = .ok (.aload_n 0, 1) := by decide +kernel
theorem dX1_init_5 : decode cX1_init 5 = .ok (.bipush 20, 2) := by decide +kernel
theorem dX1_init_7 : decode cX1_init 7 = .ok (.newarray .int, 2) := by decide +kernel
theorem dX1_init_9 : decode cX1_init 9 = .ok (.putfield 9, 3) := by decide +kernel
theorem dX1_init_12 : decode cX1_init 12 = .ok (.aload_n 0, 1) := by decide +kernel
theorem dX1_init_13 : decode cX1_init 13 = .ok (.bipush 20, 2) := by decide +kernel
theorem dX1_init_15 : decode cX1_init 15 = .ok (.newarray .int, 2) := by decide +kernel
theorem dX1_init_17 : decode cX1_init 17 = .ok (.putfield 15, 3) := by decide +kernel
theorem dX1_init_20 : decode cX1_init 20 = .ok (.aload_n 0, 1) := by decide +kernel
theorem dX1_init_21 : decode cX1_init 21 = .ok (.bipush 20, 2) := by decide +kernel
theorem dX1_init_23 : decode cX1_init 23 = .ok (.newarray .int, 2) := by decide +kernel
theorem dX1_init_25 : decode cX1_init 25 = .ok (.putfield 18, 3) := by decide +kernel
theorem dX1_init_28 : decode cX1_init 28 = .ok (.aload_n 0, 1) := by decide +kernel
theorem dX1_init_29 : decode cX1_init 29 = .ok (.bipush 20, 2) := by decide +kernel
theorem dX1_init_31 : decode cX1_init 31 = .ok (.newarray .boolean, 2) := by decide +kernel
theorem dX1_init_33 : decode cX1_init 33 = .ok (.putfield 21, 3) := by decide +kernel
theorem dX1_init_36 : decode cX1_init 36 = .ok (.aload_n 0, 1) := by decide +kernel
theorem dX1_init_37 : decode cX1_init 37 = .ok (.bipush 20, 2) := by decide +kernel
theorem dX1_init_39 : decode cX1_init 39 = .ok (.newarray .boolean, 2) := by decide +kernel
theorem dX1_init_41 : decode cX1_init 41 = .ok (.putfield 25, 3) := by decide +kernel
theorem dX1_init_44 : decode cX1_init 44 = .ok (.aload_n 0, 1) := by decide +kernel
theorem dX1_init_45 : decode cX1_init 45 = .ok (.bipush 20, 2) := by decide +kernel
theorem dX1_init_47 : decode cX1_init 47 = .ok (.newarray .int, 2) := by decide +kernel
theorem dX1_init_49 : decode cX1_init 49 = .ok (.putfield 28, 3) := by decide +kernel
theorem dX1_init_52 : decode cX1_init 52 = .ok (.aload_n 0, 1) := by decide +kernel
theorem dX1_init_53 : decode cX1_init 53 = .ok (.bipush 80, 2) := by decide +kernel
theorem dX1_init_55 : decode cX1_init 55 = .ok (.newarray .int, 2) := by decide +kernel
theorem dX1_init_57 : decode cX1_init 57 = .ok (.putfield 31, 3) := by decide +kernel
theorem dX1_init_60 : decode cX1_init 60 = .ok (.aload_n 0, 1) := by decide +kernel
theorem dX1_init_61 : decode cX1_init 61 = .ok (.bipush 80, 2) := by decide +kernel
theorem dX1_init_63 : decode cX1_init 63 = .ok (.newarray .int, 2) := by decide +kernel
theorem dX1_init_65 : decode cX1_init 65 = .ok (.putfield 34, 3) := by decide +kernel
theorem dX1_init_68 : decode cX1_init 68 = .ok (.aload_n 0, 1) := by decide +kernel
theorem dX1_init_69 : decode cX1_init 69 = .ok (.bipush 80, 2) := by decide +kernel
theorem dX1_init_71 : decode cX1_init 71 = .ok (.newarray .int, 2) := by decide +kernel
theorem dX1_init_73 : decode cX1_init 73 = .ok (.putfield 37, 3) := by decide +kernel
theorem dX1_init_76 : decode cX1_init 76 = .ok (.aload_n 0, 1) := by decide +kernel
theorem dX1_init_77 : decode cX1_init 77 = .ok (.bipush 80, 2) := by decide +kernel
theorem dX1_init_79 : decode cX1_init 79 = .ok (.newarray .boolean, 2) := by decide +kernel
theorem dX1_init_81 : decode cX1_init 81 = .ok (.putfield 40, 3) := by decide +kernel
theorem dX1_init_84 : decode cX1_init 84 = .ok (.aload_n 0, 1) := by decide +kernel
theorem dX1_init_85 : decode cX1_init 85 = .ok (.bipush 40, 2) := by decide +kernel
theorem dX1_init_87 : decode cX1_init 87 = .ok (.bipush 40, 2) := by decide +kernel
theorem dX1_init_89 : decode cX1_init 89 = .ok (.multianewarray 43 2, 4) := by decide +kernel
theorem dX1_init_93 : decode cX1_init 93 = .ok (.putfield 45, 3) := by decide +kernel
theorem dX1_init_96 : decode cX1_init 96 = .ok (.aload_n 0, 1) := by decide +kernel
theorem dX1_init_97 : decode cX1_init 97 = .ok (.bipush 40, 2) := by decide +kernel
theorem dX1_init_99 : decode cX1_init 99 = .ok (.newarray .int, 2) := by decide +kernel
theorem dX1_init_101 : decode cX1_init 101 = .ok (.putfield 48, 3) := by decide +kernel
theorem dX1_init_104 : decode cX1_init 104 = .ok (.return_, 1) := by decide +kernel
theorem dX1_addPiece_0 : decode cX1_addPiece 0 = .ok (.aload_n 0, 1) := by decide +kernel
theorem dX1_addPiece_1 : decode cX1_addPiece 1 = .ok (.getfield 51, 3) := by decide +kernel
theorem dX1_addPiece_4 : decode cX1_addPiece 4 = .ok (.istore 4, 2) := by decide +kernel
theorem dX1_addPiece_6 : decode cX1_addPiece 6 = .ok (.aload_n 0, 1) := by decide +kernel
theorem dX1_addPiece_7 : decode cX1_addPiece 7 = .ok (.getfield 9, 3) := by decide +kernel
theorem dX1_addPiece_10 : decode cX1_addPiece 10 = .ok (.iload 4, 2) := by decide +kernel
theorem dX1_addPiece_12 : decode cX1_addPiece 12 = .ok (.iload_n 1, 1) := by decide +kernel
theorem dX1_addPiece_13 : decode cX1_addPiece 13 = .ok (.iastore, 1) := by decide +kernel
theorem dX1_addPiece_14 : decode cX1_addPiece 14 = .ok (.aload_n 0, 1) := by decide +kernel
theorem dX1_addPiece_15 : decode cX1_addPiece 15 = .ok (.getfield 15, 3) := by decide +kernel
theorem dX1_addPiece_18 : decode cX1_addPiece 18 = .ok (.iload 4, 2) := by decide +kernel
theorem dX1_addPiece_20 : decode cX1_addPiece 20 = .ok (.iload_n 2, 1) := by decide +kernel
theorem dX1_addPiece_21 : decode cX1_addPiece 21 = .ok (.iastore, 1) := by decide +kernel
theorem dX1_addPiece_22 : decode cX1_addPiece 22 = .ok (.aload_n 0, 1) := by decide +kernel
theorem dX1_addPiece_23 : decode cX1_addPiece 23 = .ok (.getfield 18, 3) := by decide +kernel
theorem dX1_addPiece_26 : decode cX1_addPiece 26 = .ok (.iload 4, 2) := by decide +kernel
theorem dX1_addPiece_28 : decode cX1_addPiece 28 = .ok (.bipush 100, 2) := by decide +kernel
theorem dX1_addPiece_30 : decode cX1_addPiece 30 = .ok (.iastore, 1) := by decide +kernel
theorem dX1_addPiece_31 : decode cX1_addPiece 31 = .ok (.aload_n 0, 1) := by decide +kernel
theorem dX1_addPiece_32 : decode cX1_addPiece 32 = .ok (.getfield 21, 3) := by decide +kernel
theorem dX1_addPiece_35 : decode cX1_addPiece 35 = .ok (.iload 4, 2) := by decide +kernel
theorem dX1_addPiece_37 : decode cX1_addPiece 37 = .ok (.iload_n 3, 1) := by decide +kernel
theorem dX1_addPiece_38 : decode cX1_addPiece 38 = .ok (.bastore, 1) := by decide +kernel
theorem dX1_addPiece_39 : decode cX1_addPiece 39 = .ok (.aload_n 0, 1) := by decide +kernel
theorem dX1_addPiece_40 : decode cX1_addPiece 40 = .ok (.dup, 1) := by decide +kernel
theorem dX1_addPiece_41 : decode cX1_addPiece 41 = .ok (.getfield 51, 3) := by decide +kernel
theorem dX1_addPiece_44 : decode cX1_addPiece 44 = .ok (.iconst 1, 1) := by decide +kernel
theorem dX1_addPiece_45 : decode cX1_addPiece 45 = .ok (.iadd, 1) := by decide +kernel
theorem dX1_addPiece_46 : decode cX1_addPiece 46 = .ok (.putfield 51, 3) := by decide +kernel
theorem dX1_addPiece_49 : decode cX1_addPiece 49 = .ok (.iload 4, 2) := by decide +kernel
theorem dX1_addPiece_51 : decode cX1_addPiece 51 = .ok (.ireturn, 1) := by decide +kernel
set_option maxRecDepth 20000 in
theorem ggX1_addJoin_X1_addPassage : GoodIn wsX1_addJoin wsX1_addPassage := goodIn_r _ [6, 7, 1, 8, 9, 10, 11, 12, 13, 14, 15, 16, 17, 18, 19, 20, 21, 22, 23, 24, 25] (by decide +kernel) (by decide +kernel)
set_option maxRecDepth 20000 in
theorem gX1_addJoin_X1_addPassage : GoodIn wsX1_addJoin (wsV RX1 55 RX1 yX1_addPassage wsX1_addPassage) := goodIn_app (goodIn_of _ (by decide +kernel)) ggX1_addJoin_X1_addPassage
theorem dX1_addJoin_0 : decode cX1_addJoin 0 = .ok (.aload_n 0, 1) := by decide +kernel
theorem dX1_addJoin_1 : decode cX1_addJoin 1 = .ok (.iload_n 1, 1) := by decide +kernel
theorem dX1_addJoin_2 : decode cX1_addJoin 2 = .ok (.iload_n 2, 1) := by decide +kernel
theorem dX1_addJoin_3 : decode cX1_addJoin 3 = .ok (.iload_n 3, 1) := by decide +kernel
theorem dX1_addJoin_4 : decode cX1_addJoin 4 = .ok (.invokevirtual 55, 3) := by decide +kernel
theorem dX1_addJoin_7 : decode cX1_addJoin 7 = .ok (.aload_n 0, 1) := by decide +kernel
theorem dX1_addJoin_8 : decode cX1_addJoin 8 = .ok (.iload_n 2, 1) := by decide +kernel
theorem dX1_addJoin_9 : decode cX1_addJoin 9 = .ok (.iload_n 1, 1) := by decide +kernel
theorem dX1_addJoin_10 : decode cX1_addJoin 10 = .ok (.iload_n 3, 1) := by decide +kernel
theorem dX1_addJoin_11 : decode cX1_addJoin 11 = .ok (.invokevirtual 55, 3) := by decide +kernel
theorem dX1_addJoin_14 : decode cX1_addJoin 14 = .ok (.aload_n 0, 1) := by decide +kernel
theorem dX1_addJoin_15 : decode cX1_addJoin 15 = .ok (.getfield 59, 3) := by decide +kernel
theorem dX1_addJoin_18 : decode cX1_addJoin 18 = .ok (.iconst 2, 1) := by decide +kernel
theorem dX1_addJoin_19 : decode cX1_addJoin 19 = .ok (.idiv, 1) := by decide +kernel
theorem dX1_addJoin_20 : decode cX1_addJoin 20 = .ok (.iconst 1, 1) := by decide +kernel
theorem dX1_addJoin_21 : decode cX1_addJoin 21 = .ok (.isub, 1) := by decide +kernel
theorem dX1_addJoin_22 : decode cX1_addJoin 22 = .ok (.ireturn, 1) := by decide +kernel
theorem dX1_addPassage_0 : decode cX1_addPassage 0 = .ok (.aload_n 0, 1) := by decide +kernel
theorem dX1_addPassage_1 : decode cX1_addPassage 1 = .ok (.getfield 31, 3) := by decide +kernel
theorem dX1_addPassage_4 : decode cX1_addPassage 4 = .ok (.aload_n 0, 1) := by decide +kernel
theorem dX1_addPassage_5 : decode cX1_addPassage 5 = .ok (.getfield 59, 3) := by decide +kernel
theorem dX1_addPassage_8 : decode cX1_addPassage 8 = .ok (.iload_n 1, 1) := by decide +kernel
theorem dX1_addPassage_9 : decode cX1_addPassage 9 = .ok (.iastore, 1) := by decide +kernel
theorem dX1_addPassage_10 : decode cX1_addPassage 10 = .ok (.aload_n 0, 1) := by decide +kernel
theorem dX1_addPassage_11 : decode cX1_addPassage 11 = .ok (.getfield 34, 3) := by decide +kernel
theorem dX1_addPassage_14 : decode cX1_addPassage 14 = .ok (.aload_n 0, 1) := by decide +kernel
theorem dX1_addPassage_15 : decode cX1_addPassage 15 = .ok (.getfield 59, 3) := by decide +kernel
theorem dX1_addPassage_18 : decode cX1_addPassage 18 = .ok (.iload_n 2, 1) := by decide +kernel
theorem dX1_addPassage_19 : decode cX1_addPassage 19 = .ok (.iastore, 1) := by decide +kernel
theorem dX1_addPassage_20 : decode cX1_addPassage 20 = .ok (.aload_n 0, 1) := by decide +kernel
theorem dX1_addPassage_21 : decode cX1_addPassage 21 = .ok (.getfield 37, 3) := by decide +kernel
theorem dX1_addPassage_24 : decode cX1_addPassage 24 = .ok (.aload_n 0, 1) := by decide +kernel
theorem dX1_addPassage_25 : decode cX1_addPassage 25 = .ok (.getfield 59, 3) := by decide +kernel
theorem dX1_addPassage_28 : decode cX1_addPassage 28 = .ok (.iload_n 3, 1) := by decide +kernel
theorem dX1_addPassage_29 : decode cX1_addPassage 29 = .ok (.iastore, 1) := by decide +kernel
theorem dX1_addPassage_30 : decode cX1_addPassage 30 = .ok (.aload_n 0, 1) := by decide +kernel
theorem dX1_addPassage_31 : decode cX1_addPassage 31 = .ok (.getfield 45, 3) := by decide +kernel
theorem dX1_addPassage_34 : decode cX1_addPassage 34 = .ok (.iload_n 1, 1) := by decide +kernel
theorem dX1_addPassage_35 : decode cX1_addPassage 35 = .ok (.aaload, 1) := by decide +kernel
theorem dX1_addPassage_36 : decode cX1_addPassage 36 = .ok (.aload_n 0, 1) := by decide +kernel
theorem dX1_addPassage_37 : decode cX1_addPassage 37 = .ok (.getfield 48, 3) := by decide +kernel
theorem dX1_addPassage_40 : decode cX1_addPassage 40 = .ok (.iload_n 1, 1) := by decide +kernel
theorem dX1_addPassage_41 : decode cX1_addPassage 41 = .ok (.iaload, 1) := by decide +kernel
theorem dX1_addPassage_42 : decode cX1_addPassage 42 = .ok (.aload_n 0, 1) := by decide +kernel
theorem dX1_addPassage_43 : decode cX1_addPassage 43 = .ok (.getfield 59, 3) := by decide +kernel
theorem dX1_addPassage_46 : decode cX1_addPassage 46 = .ok (.iastore, 1) := by decide +kernel
theorem dX1_addPassage_47 : decode cX1_addPassage 47 = .ok (.aload_n 0, 1) := by decide +kernel
theorem dX1_addPassage_48 : decode cX1_addPassage 48 = .ok (.getfield 48, 3) := by decide +kernel
theorem dX1_addPassage_51 : decode cX1_addPassage 51 = .ok (.iload_n 1, 1) := by decide +kernel
theorem dX1_addPassage_52 : decode cX1_addPassage 52 = .ok (.dup2, 1) := by decide +kernel
theorem dX1_addPassage_53 : decode cX1_addPassage 53 = .ok (.iaload, 1) := by decide +kernel
theorem dX1_addPassage_54 : decode cX1_addPassage 54 = .ok (.iconst 1, 1) := by decide +kernel
theorem dX1_addPassage_55 : decode cX1_addPassage 55 = .ok (.iadd, 1) := by decide +kernel
theorem dX1_addPassage_56 : decode cX1_addPassage 56 = .ok (.iastore, 1) := by decide +kernel
theorem dX1_addPassage_57 : decode cX1_addPassage 57 = .ok (.aload_n 0, 1) := by decide +kernel
theorem dX1_addPassage_58 : decode cX1_addPassage 58 = .ok (.dup, 1) := by decide +kernel
theorem dX1_addPassage_59 : decode cX1_addPassage 59 = .ok (.getfield 59, 3) := by decide +kernel
theorem dX1_addPassage_62 : decode cX1_addPassage 62 = .ok (.iconst 1, 1) := by decide +kernel
theorem dX1_addPassage_63 : decode cX1_addPassage 63 = .ok (.iadd, 1) := by decide +kernel
theorem dX1_addPassage_64 : decode cX1_addPassage 64 = .ok (.putfield 59, 3) := by decide +kernel
theorem dX1_addPassage_67 : decode cX1_addPassage 67 = .ok (.return_, 1) := by decide +kernel
theorem dX1_barredAmong_0 : decode cX1_barredAmong 0 = .ok (.iconst 0, 1) := by decide +kernel
theorem dX1_barredAmong_1 : decode cX1_barredAmong 1 = .ok (.istore_n 3, 1) := by decide +kernel
theorem dX1_barredAmong_2 : decode cX1_barredAmong 2 = .ok (.iload_n 1, 1) := by decide +kernel
theorem dX1_barredAmong_3 : decode cX1_barredAmong 3 = .ok (.istore 4, 2) := by decide +kernel
theorem dX1_barredAmong_5 : decode cX1_barredAmong 5 = .ok (.iload 4, 2) := by decide +kernel
theorem dX1_barredAmong_7 : decode cX1_barredAmong 7 = .ok (.iload_n 2, 1) := by decide +kernel
theorem dX1_barredAmong_8 : decode cX1_barredAmong 8 = .ok (.if_icmp .ge 22, 3) := by decide +kernel
theorem dX1_barredAmong_11 : decode cX1_barredAmong 11 = .ok (.aload_n 0, 1) := by decide +kernel
theorem dX1_barredAmong_12 : decode cX1_barredAmong 12 = .ok (.getfield 40, 3) := by decide +kernel
theorem dX1_barredAmong_15 : decode cX1_barredAmong 15 = .ok (.iload 4, 2) := by decide +kernel
theorem dX1_barredAmong_17 : decode cX1_barredAmong 17 = .ok (.baload, 1) := by decide +kernel
theorem dX1_barredAmong_18 : decode cX1_barredAmong 18 = .ok (.ifCond .eq 6, 3) := by decide +kernel
theorem dX1_barredAmong_21 : decode cX1_barredAmong 21 = .ok (.iinc 3 1, 3) := by decide +kernel
theorem dX1_barredAmong_24 : decode cX1_barredAmong 24 = .ok (.iinc 4 1, 3) := by decide +kernel
theorem dX1_barredAmong_27 : decode cX1_barredAmong 27 = .ok (.goto (-22), 3) := by decide +kernel
theorem dX1_barredAmong_30 : decode cX1_barredAmong 30 = .ok (.iload_n 3, 1) := by decide +kernel
theorem dX1_barredAmong_31 : decode cX1_barredAmong 31 = .ok (.ireturn, 1) := by decide +kernel
set_option maxRecDepth 20000 in
theorem ggX1_setZone_J6_bitCount_0f7a4 : GoodIn wsX1_setZone wsJ6_bitCount_0f7a4 := goodIn_r _ [5, 6, 7, 8] (by decide +kernel) (by decide +kernel)
set_option maxRecDepth 20000 in
theorem gX1_setZone_J6_bitCount_0f7a4 : GoodIn wsX1_setZone (va_wsS RX1 62 yJ6_bitCount_0f7a4 wsJ6_bitCount_0f7a4) := goodIn_app (goodIn_of _ (by decide +kernel)) ggX1_setZone_J6_bitCount_0f7a4
theorem dX1_setZone_0 : decode cX1_setZone 0 = .ok (.iconst 1, 1) := by decide +kernel
theorem dX1_setZone_1 : decode cX1_setZone 1 = .ok (.iload_n 2, 1) := by decide +kernel
theorem dX1_setZone_2 : decode cX1_setZone 2 = .ok (.ishl, 1) := by decide +kernel
theorem dX1_setZone_3 : decode cX1_setZone 3 = .ok (.istore 4, 2) := by decide +kernel
theorem dX1_setZone_5 : decode cX1_setZone 5 = .ok (.iload_n 3, 1) := by decide +kernel
theorem dX1_setZone_6 : decode cX1_setZone 6 = .ok (.ifCond .eq 17, 3) := by decide +kernel
theorem dX1_setZone_9 : decode cX1_setZone 9 = .ok (.aload_n 0, 1) := by decide +kernel
theorem dX1_setZone_10 : decode cX1_setZone 10 = .ok (.getfield 28, 3) := by decide +kernel
theorem dX1_setZone_13 : decode cX1_setZone 13 = .ok (.iload_n 1, 1) := by decide +kernel
theorem dX1_setZone_14 : decode cX1_setZone 14 = .ok (.dup2, 1) := by decide +kernel
theorem dX1_setZone_15 : decode cX1_setZone 15 = .ok (.iaload, 1) := by decide +kernel
theorem dX1_setZone_16 : decode cX1_setZone 16 = .ok (.iload 4, 2) := by decide +kernel
theorem dX1_setZone_18 : decode cX1_setZone 18 = .ok (.ior, 1) := by decide +kernel
theorem dX1_setZone_19 : decode cX1_setZone 19 = .ok (.iastore, 1) := by decide +kernel
theorem dX1_setZone_20 : decode cX1_setZone 20 = .ok (.goto 16, 3) := by decide +kernel
theorem dX1_setZone_23 : decode cX1_setZone 23 = .ok (.aload_n 0, 1) := by decide +kernel
theorem dX1_setZone_24 : decode cX1_setZone 24 = .ok (.getfield 28, 3) := by decide +kernel
theorem dX1_setZone_27 : decode cX1_setZone 27 = .ok (.iload_n 1, 1) := by decide +kernel
theorem dX1_setZone_28 : decode cX1_setZone 28 = .ok (.dup2, 1) := by decide +kernel
theorem dX1_setZone_29 : decode cX1_setZone 29 = .ok (.iaload, 1) := by decide +kernel
theorem dX1_setZone_30 : decode cX1_setZone 30 = .ok (.iload 4, 2) := by decide +kernel
theorem dX1_setZone_32 : decode cX1_setZone 32 = .ok (.iconst (-1), 1) := by decide +kernel
theorem dX1_setZone_33 : decode cX1_setZone 33 = .ok (.ixor, 1) := by decide +kernel
theorem dX1_setZone_34 : decode cX1_setZone 34 = .ok (.iand, 1) := by decide +kernel
theorem dX1_setZone_35 : decode cX1_setZone 35 = .ok (.iastore, 1) := by decide +kernel
theorem dX1_setZone_36 : decode cX1_setZone 36 = .ok (.aload_n 0, 1) := by decide +kernel
theorem dX1_setZone_37 : decode cX1_setZone 37 = .ok (.getfield 28, 3) := by decide +kernel
theorem dX1_setZone_40 : decode cX1_setZone 40 = .ok (.iload_n 1, 1) := by decide +kernel
theorem dX1_setZone_41 : decode cX1_setZone 41 = .ok (.iaload, 1) := by decide +kernel
theorem dX1_setZone_42 : decode cX1_setZone 42 = .ok (.invokestatic 62, 3) := by decide +kernel
theorem dX1_setZone_45 : decode cX1_setZone 45 = .ok (.ireturn, 1) := by decide +kernel
theorem dX1_shutPieces_0 : decode cX1_shutPieces 0 = .ok (.iconst 0, 1) := by decide +kernel
theorem dX1_shutPieces_1 : decode cX1_shutPieces 1 = .ok (.istore_n 1, 1) := by decide +kernel
theorem dX1_shutPieces_2 : decode cX1_shutPieces 2 = .ok (.iconst 0, 1) := by decide +kernel
theorem dX1_shutPieces_3 : decode cX1_shutPieces 3 = .ok (.istore_n 2, 1) := by decide +kernel
theorem dX1_shutPieces_4 : decode cX1_shutPieces 4 = .ok (.iload_n 2, 1) := by decide +kernel
theorem dX1_shutPieces_5 : decode cX1_shutPieces 5 = .ok (.aload_n 0, 1) := by decide +kernel
theorem dX1_shutPieces_6 : decode cX1_shutPieces 6 = .ok (.getfield 51, 3) := by decide +kernel
theorem dX1_shutPieces_9 : decode cX1_shutPieces 9 = .ok (.if_icmp .ge 21, 3) := by decide +kernel
end
section
theorem dX1_shutPieces_12 : decode cX1_shutPieces 12 = .ok (.aload_n 0, 1) := by decide +kernel
theorem dX1_shutPieces_13 : decode cX1_shutPieces 13 = .ok (.getfield 25, 3) := by decide +kernel
theorem dX1_shutPieces_16 : decode cX1_shutPieces 16 = .ok (.iload_n 2, 1) := by decide +kernel
theorem dX1_shutPieces_17 : decode cX1_shutPieces 17 = .ok (.baload, 1) := by decide +kernel
theorem dX1_shutPieces_18 : decode cX1_shutPieces 18 = .ok (.ifCond .eq 6, 3) := by decide +kernel
theorem dX1_shutPieces_21 : decode cX1_shutPieces 21 = .ok (.iinc 1 1, 3) := by decide +kernel
theorem dX1_shutPieces_24 : decode cX1_shutPieces 24 = .ok (.iinc 2 1, 3) := by decide +kernel
theorem dX1_shutPieces_27 : decode cX1_shutPieces 27 = .ok (.goto (-23), 3) := by decide +kernel
theorem dX1_shutPieces_30 : decode cX1_shutPieces 30 = .ok (.iload_n 1, 1) := by decide +kernel
theorem dX1_shutPieces_31 : decode cX1_shutPieces 31 = .ok (.ireturn, 1) := by decide +kernel
theorem dX1_hasPieceFor_0 : decode cX1_hasPieceFor 0 = .ok (.iconst 0, 1) := by decide +kernel
theorem dX1_hasPieceFor_1 : decode cX1_hasPieceFor 1 = .ok (.istore_n 2, 1) := by decide +kernel
theorem dX1_hasPieceFor_2 : decode cX1_hasPieceFor 2 = .ok (.iload_n 2, 1) := by decide +kernel
theorem dX1_hasPieceFor_3 : decode cX1_hasPieceFor 3 = .ok (.aload_n 0, 1) := by decide +kernel
theorem dX1_hasPieceFor_4 : decode cX1_hasPieceFor 4 = .ok (.getfield 51, 3) := by decide +kernel
theorem dX1_hasPieceFor_7 : decode cX1_hasPieceFor 7 = .ok (.if_icmp .ge 21, 3) := by decide +kernel
theorem dX1_hasPieceFor_10 : decode cX1_hasPieceFor 10 = .ok (.aload_n 0, 1) := by decide +kernel
theorem dX1_hasPieceFor_11 : decode cX1_hasPieceFor 11 = .ok (.getfield 18, 3) := by decide +kernel
theorem dX1_hasPieceFor_14 : decode cX1_hasPieceFor 14 = .ok (.iload_n 2, 1) := by decide +kernel
theorem dX1_hasPieceFor_15 : decode cX1_hasPieceFor 15 = .ok (.iaload, 1) := by decide +kernel
theorem dX1_hasPieceFor_16 : decode cX1_hasPieceFor 16 = .ok (.iload_n 1, 1) := by decide +kernel
theorem dX1_hasPieceFor_17 : decode cX1_hasPieceFor 17 = .ok (.if_icmp .lt 5, 3) := by decide +kernel
theorem dX1_hasPieceFor_20 : decode cX1_hasPieceFor 20 = .ok (.iconst 1, 1) := by decide +kernel
theorem dX1_hasPieceFor_21 : decode cX1_hasPieceFor 21 = .ok (.ireturn, 1) := by decide +kernel
theorem dX1_hasPieceFor_22 : decode cX1_hasPieceFor 22 = .ok (.iinc 2 1, 3) := by decide +kernel
theorem dX1_hasPieceFor_25 : decode cX1_hasPieceFor 25 = .ok (.goto (-23), 3) := by decide +kernel
theorem dX1_hasPieceFor_28 : decode cX1_hasPieceFor 28 = .ok (.iconst 0, 1) := by decide +kernel
theorem dX1_hasPieceFor_29 : decode cX1_hasPieceFor 29 = .ok (.ireturn, 1) := by decide +kernel
theorem dX1_mayLeave_0 : decode cX1_mayLeave 0 = .ok (.iload_n 1, 1) := by decide +kernel
theorem dX1_mayLeave_1 : decode cX1_mayLeave 1 = .ok (.iconst 2, 1) := by decide +kernel
theorem dX1_mayLeave_2 : decode cX1_mayLeave 2 = .ok (.irem, 1) := by decide +kernel
theorem dX1_mayLeave_3 : decode cX1_mayLeave 3 = .ok (.iconst 1, 1) := by decide +kernel
theorem dX1_mayLeave_4 : decode cX1_mayLeave 4 = .ok (.if_icmp .eq 14, 3) := by decide +kernel
theorem dX1_mayLeave_7 : decode cX1_mayLeave 7 = .ok (.aload_n 0, 1) := by decide +kernel
theorem dX1_mayLeave_8 : decode cX1_mayLeave 8 = .ok (.getfield 21, 3) := by decide +kernel
theorem dX1_mayLeave_11 : decode cX1_mayLeave 11 = .ok (.iload_n 1, 1) := by decide +kernel
theorem dX1_mayLeave_12 : decode cX1_mayLeave 12 = .ok (.iconst 2, 1) := by decide +kernel
theorem dX1_mayLeave_13 : decode cX1_mayLeave 13 = .ok (.idiv, 1) := by decide +kernel
theorem dX1_mayLeave_14 : decode cX1_mayLeave 14 = .ok (.baload, 1) := by decide +kernel
theorem dX1_mayLeave_15 : decode cX1_mayLeave 15 = .ok (.ifCond .eq 7, 3) := by decide +kernel
theorem dX1_mayLeave_18 : decode cX1_mayLeave 18 = .ok (.iconst 1, 1) := by decide +kernel
theorem dX1_mayLeave_19 : decode cX1_mayLeave 19 = .ok (.goto 4, 3) := by decide +kernel
theorem dX1_mayLeave_22 : decode cX1_mayLeave 22 = .ok (.iconst 0, 1) := by decide +kernel
theorem dX1_mayLeave_23 : decode cX1_mayLeave 23 = .ok (.ireturn, 1) := by decide +kernel
theorem dX1_mayEnter_0 : decode cX1_mayEnter 0 = .ok (.iload_n 1, 1) := by decide +kernel
theorem dX1_mayEnter_1 : decode cX1_mayEnter 1 = .ok (.iconst 2, 1) := by decide +kernel
theorem dX1_mayEnter_2 : decode cX1_mayEnter 2 = .ok (.idiv, 1) := by decide +kernel
theorem dX1_mayEnter_3 : decode cX1_mayEnter 3 = .ok (.istore 4, 2) := by decide +kernel
theorem dX1_mayEnter_5 : decode cX1_mayEnter 5 = .ok (.aload_n 0, 1) := by decide +kernel
theorem dX1_mayEnter_6 : decode cX1_mayEnter 6 = .ok (.getfield 25, 3) := by decide +kernel
theorem dX1_mayEnter_9 : decode cX1_mayEnter 9 = .ok (.iload 4, 2) := by decide +kernel
theorem dX1_mayEnter_11 : decode cX1_mayEnter 11 = .ok (.baload, 1) := by decide +kernel
theorem dX1_mayEnter_12 : decode cX1_mayEnter 12 = .ok (.ifCond .ne 48, 3) := by decide +kernel
theorem dX1_mayEnter_15 : decode cX1_mayEnter 15 = .ok (.aload_n 0, 1) := by decide +kernel
theorem dX1_mayEnter_16 : decode cX1_mayEnter 16 = .ok (.getfield 28, 3) := by decide +kernel
theorem dX1_mayEnter_19 : decode cX1_mayEnter 19 = .ok (.iload 4, 2) := by decide +kernel
theorem dX1_mayEnter_21 : decode cX1_mayEnter 21 = .ok (.iaload, 1) := by decide +kernel
theorem dX1_mayEnter_22 : decode cX1_mayEnter 22 = .ok (.iload_n 3, 1) := by decide +kernel
theorem dX1_mayEnter_23 : decode cX1_mayEnter 23 = .ok (.ishr, 1) := by decide +kernel
theorem dX1_mayEnter_24 : decode cX1_mayEnter 24 = .ok (.iconst 1, 1) := by decide +kernel
theorem dX1_mayEnter_25 : decode cX1_mayEnter 25 = .ok (.iand, 1) := by decide +kernel
theorem dX1_mayEnter_26 : decode cX1_mayEnter 26 = .ok (.ifCond .ne 34, 3) := by decide +kernel
theorem dX1_mayEnter_29 : decode cX1_mayEnter 29 = .ok (.aload_n 0, 1) := by decide +kernel
theorem dX1_mayEnter_30 : decode cX1_mayEnter 30 = .ok (.getfield 18, 3) := by decide +kernel
theorem dX1_mayEnter_33 : decode cX1_mayEnter 33 = .ok (.iload 4, 2) := by decide +kernel
theorem dX1_mayEnter_35 : decode cX1_mayEnter 35 = .ok (.iaload, 1) := by decide +kernel
theorem dX1_mayEnter_36 : decode cX1_mayEnter 36 = .ok (.iload_n 2, 1) := by decide +kernel
theorem dX1_mayEnter_37 : decode cX1_mayEnter 37 = .ok (.if_icmp .lt 23, 3) := by decide +kernel
theorem dX1_mayEnter_40 : decode cX1_mayEnter 40 = .ok (.iload_n 1, 1) := by decide +kernel
theorem dX1_mayEnter_41 : decode cX1_mayEnter 41 = .ok (.iconst 2, 1) := by decide +kernel
theorem dX1_mayEnter_42 : decode cX1_mayEnter 42 = .ok (.irem, 1) := by decide +kernel
theorem dX1_mayEnter_43 : decode cX1_mayEnter 43 = .ok (.ifCond .eq 13, 3) := by decide +kernel
theorem dX1_mayEnter_46 : decode cX1_mayEnter 46 = .ok (.aload_n 0, 1) := by decide +kernel
theorem dX1_mayEnter_47 : decode cX1_mayEnter 47 = .ok (.getfield 21, 3) := by decide +kernel
theorem dX1_mayEnter_50 : decode cX1_mayEnter 50 = .ok (.iload 4, 2) := by decide +kernel
theorem dX1_mayEnter_52 : decode cX1_mayEnter 52 = .ok (.baload, 1) := by decide +kernel
theorem dX1_mayEnter_53 : decode cX1_mayEnter 53 = .ok (.ifCond .eq 7, 3) := by decide +kernel
theorem dX1_mayEnter_56 : decode cX1_mayEnter 56 = .ok (.iconst 1, 1) := by decide +kernel
theorem dX1_mayEnter_57 : decode cX1_mayEnter 57 = .ok (.goto 4, 3) := by decide +kernel
theorem dX1_mayEnter_60 : decode cX1_mayEnter 60 = .ok (.iconst 0, 1) := by decide +kernel
theorem dX1_mayEnter_61 : decode cX1_mayEnter 61 = .ok (.ireturn, 1) := by decide +kernel
set_option maxRecDepth 20000 in
theorem ggX2_init_X1_init : GoodIn wsX2_init wsX1_init := goodIn_r _ [20, 21, 2, 3, 12, 22, 23, 24, 25, 26, 27, 28, 29, 30, 31, 32, 33, 34, 35, 42, 43, 44, 45, 46, 47, 48, 49, 50, 51, 52, 53, 54, 55] (by decide +kernel) (by decide +kernel)
set_option maxRecDepth 20000 in
theorem gX2_init_X1_init_n11 : GoodIn wsX2_init (wsX1_init) := ggX2_init_X1_init
set_option maxRecDepth 20000 in
theorem ggX2_init_X0_init : GoodIn wsX2_init wsX0_init := goodIn_r _ [37, 38, 2, 3, 25, 39, 12, 40, 41, 68, 69, 70] (by decide +kernel) (by decide +kernel)
set_option maxRecDepth 20000 in
theorem gX2_init_X0_init_n18 : GoodIn wsX2_init (wsX0_init) := ggX2_init_X0_init
theorem dX2_init_0 : decode cX2_init 0 = .ok (.aload_n 0, 1) := by decide +kernel
theorem dX2_init_1 : decode cX2_init 1 = .ok (.invokespecial 3, 3) := by decide +kernel
theorem dX2_init_4 : decode cX2_init 4 = .ok (.aload_n 0, 1) := by decide +kernel
theorem dX2_init_5 : decode cX2_init 5 = .ok (.new 9, 3) := by decide +kernel
theorem dX2_init_8 : decode cX2_init 8 = .ok (.dup, 1) := by decide +kernel
theorem dX2_init_9 : decode cX2_init 9 = .ok (.invokespecial 11, 3) := by decide +kernel
theorem dX2_init_12 : decode cX2_init 12 = .ok (.putfield 12, 3) := by decide +kernel
theorem dX2_init_15 : decode cX2_init 15 = .ok (.aload_n 0, 1) := by decide +kernel
theorem dX2_init_16 : decode cX2_init 16 = .ok (.new 16, 3) := by decide +kernel
theorem dX2_init_19 : decode cX2_init 19 = .ok (.dup, 1) := by decide +kernel
theorem dX2_init_20 : decode cX2_init 20 = .ok (.invokespecial 18, 3) := by decide +kernel
theorem dX2_init_23 : decode cX2_init 23 = .ok (.putfield 19, 3) := by decide +kernel
theorem dX2_init_26 : decode cX2_init 26 = .ok (.aload_n 0, 1) := by decide +kernel
theorem dX2_init_27 : decode cX2_init 27 = .ok (.bipush 6, 2) := by decide +kernel
theorem dX2_init_29 : decode cX2_init 29 = .ok (.newarray .int, 2) := by decide +kernel
theorem dX2_init_31 : decode cX2_init 31 = .ok (.putfield 23, 3) := by decide +kernel
theorem dX2_init_34 : decode cX2_init 34 = .ok (.aload_n 0, 1) := by decide +kernel
theorem dX2_init_35 : decode cX2_init 35 = .ok (.bipush 8, 2) := by decide +kernel
theorem dX2_init_37 : decode cX2_init 37 = .ok (.newarray .int, 2) := by decide +kernel
theorem dX2_init_39 : decode cX2_init 39 = .ok (.putfield 27, 3) := by decide +kernel
theorem dX2_init_42 : decode cX2_init 42 = .ok (.aload_n 0, 1) := by decide +kernel
theorem dX2_init_43 : decode cX2_init 43 = .ok (.bipush 40, 2) := by decide +kernel
theorem dX2_init_45 : decode cX2_init 45 = .ok (.newarray .int, 2) := by decide +kernel
theorem dX2_init_47 : decode cX2_init 47 = .ok (.putfield 30, 3) := by decide +kernel
theorem dX2_init_50 : decode cX2_init 50 = .ok (.aload_n 0, 1) := by decide +kernel
theorem dX2_init_51 : decode cX2_init 51 = .ok (.bipush 8, 2) := by decide +kernel
theorem dX2_init_53 : decode cX2_init 53 = .ok (.bipush 8, 2) := by decide +kernel
theorem dX2_init_55 : decode cX2_init 55 = .ok (.multianewarray 33 2, 4) := by decide +kernel
theorem dX2_init_59 : decode cX2_init 59 = .ok (.putfield 35, 3) := by decide +kernel
theorem dX2_init_62 : decode cX2_init 62 = .ok (.aload_n 0, 1) := by decide +kernel
theorem dX2_init_63 : decode cX2_init 63 = .ok (.bipush 8, 2) := by decide +kernel
theorem dX2_init_65 : decode cX2_init 65 = .ok (.newarray .int, 2) := by decide +kernel
theorem dX2_init_67 : decode cX2_init 67 = .ok (.putfield 38, 3) := by decide +kernel
theorem dX2_init_70 : decode cX2_init 70 = .ok (.return_, 1) := by decide +kernel
set_option maxRecDepth 20000 in
theorem ggX2_piece_X1_addPiece : GoodIn wsX2_piece wsX1_addPiece := goodIn_r _ [10, 11, 12, 13, 14, 15, 28, 29, 30, 31, 32, 33, 34, 35, 36, 37, 38, 39, 40, 41] (by decide +kernel) (by decide +kernel)
set_option maxRecDepth 20000 in
theorem gX2_piece_X1_addPiece_n62 : GoodIn wsX2_piece (wsX1_addPiece) := ggX2_piece_X1_addPiece
theorem dX2_piece_0 : decode cX2_piece 0 = .ok (.iload_n 1, 1) := by decide +kernel
theorem dX2_piece_1 : decode cX2_piece 1 = .ok (.ifCond .lt 9, 3) := by decide +kernel
theorem dX2_piece_4 : decode cX2_piece 4 = .ok (.iload_n 1, 1) := by decide +kernel
theorem dX2_piece_5 : decode cX2_piece 5 = .ok (.bipush 9, 2) := by decide +kernel
theorem dX2_piece_7 : decode cX2_piece 7 = .ok (.if_icmp .le 13, 3) := by decide +kernel
theorem dX2_piece_10 : decode cX2_piece 10 = .ok (.new 41, 3) := by decide +kernel
theorem dX2_piece_13 : decode cX2_piece 13 = .ok (.dup, 1) := by decide +kernel
theorem dX2_piece_14 : decode cX2_piece 14 = .ok (.ldc 43, 2) := by decide +kernel
theorem dX2_piece_16 : decode cX2_piece 16 = .ok (.invokespecial 45, 3) := by decide +kernel
theorem dX2_piece_19 : decode cX2_piece 19 = .ok (.athrow, 1) := by decide +kernel
theorem dX2_piece_20 : decode cX2_piece 20 = .ok (.iload_n 2, 1) := by decide +kernel
theorem dX2_piece_21 : decode cX2_piece 21 = .ok (.iconst 1, 1) := by decide +kernel
theorem dX2_piece_22 : decode cX2_piece 22 = .ok (.if_icmp .lt 10, 3) := by decide +kernel
theorem dX2_piece_25 : decode cX2_piece 25 = .ok (.iload_n 2, 1) := by decide +kernel
theorem dX2_piece_26 : decode cX2_piece 26 = .ok (.sipush 1000, 3) := by decide +kernel
theorem dX2_piece_29 : decode cX2_piece 29 = .ok (.if_icmp .le 13, 3) := by decide +kernel
theorem dX2_piece_32 : decode cX2_piece 32 = .ok (.new 41, 3) := by decide +kernel
theorem dX2_piece_35 : decode cX2_piece 35 = .ok (.dup, 1) := by decide +kernel
theorem dX2_piece_36 : decode cX2_piece 36 = .ok (.ldc 48, 2) := by decide +kernel
theorem dX2_piece_38 : decode cX2_piece 38 = .ok (.invokespecial 45, 3) := by decide +kernel
theorem dX2_piece_41 : decode cX2_piece 41 = .ok (.athrow, 1) := by decide +kernel
theorem dX2_piece_42 : decode cX2_piece 42 = .ok (.aload_n 0, 1) := by decide +kernel
theorem dX2_piece_43 : decode cX2_piece 43 = .ok (.getfield 12, 3) := by decide +kernel
theorem dX2_piece_46 : decode cX2_piece 46 = .ok (.getfield 50, 3) := by decide +kernel
theorem dX2_piece_49 : decode cX2_piece 49 = .ok (.bipush 20, 2) := by decide +kernel
theorem dX2_piece_51 : decode cX2_piece 51 = .ok (.if_icmp .lt 13, 3) := by decide +kernel
theorem dX2_piece_54 : decode cX2_piece 54 = .ok (.new 54, 3) := by decide +kernel
theorem dX2_piece_57 : decode cX2_piece 57 = .ok (.dup, 1) := by decide +kernel
theorem dX2_piece_58 : decode cX2_piece 58 = .ok (.ldc 56, 2) := by decide +kernel
theorem dX2_piece_60 : decode cX2_piece 60 = .ok (.invokespecial 58, 3) := by decide +kernel
theorem dX2_piece_63 : decode cX2_piece 63 = .ok (.athrow, 1) := by decide +kernel
theorem dX2_piece_64 : decode cX2_piece 64 = .ok (.aload_n 0, 1) := by decide +kernel
theorem dX2_piece_65 : decode cX2_piece 65 = .ok (.dup, 1) := by decide +kernel
theorem dX2_piece_66 : decode cX2_piece 66 = .ok (.getfield 59, 3) := by decide +kernel
theorem dX2_piece_69 : decode cX2_piece 69 = .ok (.iconst 1, 1) := by decide +kernel
theorem dX2_piece_70 : decode cX2_piece 70 = .ok (.iadd, 1) := by decide +kernel
theorem dX2_piece_71 : decode cX2_piece 71 = .ok (.putfield 59, 3) := by decide +kernel
theorem dX2_piece_74 : decode cX2_piece 74 = .ok (.aload_n 0, 1) := by decide +kernel
theorem dX2_piece_75 : decode cX2_piece 75 = .ok (.getfield 12, 3) := by decide +kernel
theorem dX2_piece_78 : decode cX2_piece 78 = .ok (.iload_n 1, 1) := by decide +kernel
theorem dX2_piece_79 : decode cX2_piece 79 = .ok (.iload_n 2, 1) := by decide +kernel
theorem dX2_piece_80 : decode cX2_piece 80 = .ok (.iload_n 3, 1) := by decide +kernel
theorem dX2_piece_81 : decode cX2_piece 81 = .ok (.invokevirtual 62, 3) := by decide +kernel
theorem dX2_piece_84 : decode cX2_piece 84 = .ok (.ireturn, 1) := by decide +kernel
set_option maxRecDepth 20000 in
theorem ggX2_join_X2_needPiece : GoodIn wsX2_join wsX2_needPiece := goodIn_ca (goodIn_r _ [8, 1, 2, 3, 33, 34, 35, 36, 37, 38, 39, 40, 41, 42, 43, 44, 45, 46, 47, 48, 49, 50, 51, 52, 53, 54, 55, 56, 57, 58] (by decide +kernel) (by decide +kernel)) (goodIn_sub (fun _ h => List.mem_cons_of_mem _ (List.mem_append_left _ (List.mem_append_right _ h))) (by decide +kernel))
set_option maxRecDepth 20000 in
theorem gX2_join_X2_needPiece : GoodIn wsX2_join (wsV RX2 66 RX2 yX2_needPiece wsX2_needPiece) := goodIn_app (goodIn_of _ (by decide +kernel)) ggX2_join_X2_needPiece
set_option maxRecDepth 20000 in
theorem ggX2_join_X2_needZeroOrOne : GoodIn wsX2_join wsX2_needZeroOrOne := goodIn_ca (goodIn_r _ [11, 1, 2] (by decide +kernel) (by decide +kernel)) (goodIn_sub (fun _ h => List.mem_cons_of_mem _ (List.mem_append_left _ (List.mem_append_right _ h))) (by decide +kernel))
set_option maxRecDepth 20000 in
theorem gX2_join_X2_needZeroOrOne : GoodIn wsX2_join (va_wsS RX2 70 yX2_needZeroOrOne wsX2_needZeroOrOne) := goodIn_app (goodIn_of _ (by decide +kernel)) ggX2_join_X2_needZeroOrOne
set_option maxRecDepth 20000 in
theorem ggX2_join_X2_joinEnds : GoodIn wsX2_join wsX2_joinEnds := goodIn_ca (goodIn_ca (goodIn_r _ [15, 1, 2, 16, 17, 3, 18, 19, 20, 21, 22, 23, 24, 25, 26, 27, 28, 29, 30, 31, 32, 33, 34, 35, 36, 37, 38, 39, 40, 41, 42, 43, 44, 45, 46, 47, 48, 49, 50, 51, 52, 53, 54, 55, 56, 57, 58] (by decide +kernel) (by decide +kernel)) (goodIn_sub (fun _ h => List.mem_cons_of_mem _ (List.mem_append_left _ (List.mem_append_right _ h))) (by decide +kernel))) (goodIn_sub (fun _ h => List.mem_cons_of_mem _ (List.mem_append_right _ h)) (by decide +kernel))
set_option maxRecDepth 20000 in
theorem gX2_join_X2_joinEnds : GoodIn wsX2_join (wsV RX2 80 RX2 yX2_joinEnds wsX2_joinEnds) := goodIn_app (goodIn_of _ (by decide +kernel)) ggX2_join_X2_joinEnds
theorem dX2_join_0 : decode cX2_join 0 = .ok (.aload_n 0, 1) := by decide +kernel
theorem dX2_join_1 : decode cX2_join 1 = .ok (.iload_n 1, 1) := by decide +kernel
theorem dX2_join_2 : decode cX2_join 2 = .ok (.invokevirtual 66, 3) := by decide +kernel
theorem dX2_join_5 : decode cX2_join 5 = .ok (.aload_n 0, 1) := by decide +kernel
theorem dX2_join_6 : decode cX2_join 6 = .ok (.iload_n 3, 1) := by decide +kernel
theorem dX2_join_7 : decode cX2_join 7 = .ok (.invokevirtual 66, 3) := by decide +kernel
theorem dX2_join_10 : decode cX2_join 10 = .ok (.iload_n 2, 1) := by decide +kernel
theorem dX2_join_11 : decode cX2_join 11 = .ok (.invokestatic 70, 3) := by decide +kernel
theorem dX2_join_14 : decode cX2_join 14 = .ok (.iload 4, 2) := by decide +kernel
theorem dX2_join_16 : decode cX2_join 16 = .ok (.invokestatic 70, 3) := by decide +kernel
theorem dX2_join_19 : decode cX2_join 19 = .ok (.iload_n 1, 1) := by decide +kernel
theorem dX2_join_20 : decode cX2_join 20 = .ok (.iload_n 3, 1) := by decide +kernel
theorem dX2_join_21 : decode cX2_join 21 = .ok (.if_icmp .ne 13, 3) := by decide +kernel
theorem dX2_join_24 : decode cX2_join 24 = .ok (.new 41, 3) := by decide +kernel
theorem dX2_join_27 : decode cX2_join 27 = .ok (.dup, 1) := by decide +kernel
theorem dX2_join_28 : decode cX2_join 28 = .ok (.ldc 73, 2) := by decide +kernel
theorem dX2_join_30 : decode cX2_join 30 = .ok (.invokespecial 45, 3) := by decide +kernel
theorem dX2_join_33 : decode cX2_join 33 = .ok (.athrow, 1) := by decide +kernel
theorem dX2_join_34 : decode cX2_join 34 = .ok (.aload_n 0, 1) := by decide +kernel
theorem dX2_join_35 : decode cX2_join 35 = .ok (.getfield 12, 3) := by decide +kernel
theorem dX2_join_38 : decode cX2_join 38 = .ok (.getfield 75, 3) := by decide +kernel
theorem dX2_join_41 : decode cX2_join 41 = .ok (.iload_n 1, 1) := by decide +kernel
theorem dX2_join_42 : decode cX2_join 42 = .ok (.iaload, 1) := by decide +kernel
theorem dX2_join_43 : decode cX2_join 43 = .ok (.aload_n 0, 1) := by decide +kernel
theorem dX2_join_44 : decode cX2_join 44 = .ok (.getfield 12, 3) := by decide +kernel
theorem dX2_join_47 : decode cX2_join 47 = .ok (.getfield 75, 3) := by decide +kernel
theorem dX2_join_50 : decode cX2_join 50 = .ok (.iload_n 3, 1) := by decide +kernel
theorem dX2_join_51 : decode cX2_join 51 = .ok (.iaload, 1) := by decide +kernel
theorem dX2_join_52 : decode cX2_join 52 = .ok (.if_icmp .eq 13, 3) := by decide +kernel
theorem dX2_join_55 : decode cX2_join 55 = .ok (.new 41, 3) := by decide +kernel
theorem dX2_join_58 : decode cX2_join 58 = .ok (.dup, 1) := by decide +kernel
theorem dX2_join_59 : decode cX2_join 59 = .ok (.ldc 78, 2) := by decide +kernel
theorem dX2_join_61 : decode cX2_join 61 = .ok (.invokespecial 45, 3) := by decide +kernel
theorem dX2_join_64 : decode cX2_join 64 = .ok (.athrow, 1) := by decide +kernel
theorem dX2_join_65 : decode cX2_join 65 = .ok (.aload_n 0, 1) := by decide +kernel
theorem dX2_join_66 : decode cX2_join 66 = .ok (.iconst 2, 1) := by decide +kernel
theorem dX2_join_67 : decode cX2_join 67 = .ok (.iload_n 1, 1) := by decide +kernel
theorem dX2_join_68 : decode cX2_join 68 = .ok (.imul, 1) := by decide +kernel
theorem dX2_join_69 : decode cX2_join 69 = .ok (.iload_n 2, 1) := by decide +kernel
theorem dX2_join_70 : decode cX2_join 70 = .ok (.iadd, 1) := by decide +kernel
theorem dX2_join_71 : decode cX2_join 71 = .ok (.iconst 2, 1) := by decide +kernel
theorem dX2_join_72 : decode cX2_join 72 = .ok (.iload_n 3, 1) := by decide +kernel
theorem dX2_join_73 : decode cX2_join 73 = .ok (.imul, 1) := by decide +kernel
theorem dX2_join_74 : decode cX2_join 74 = .ok (.iload 4, 2) := by decide +kernel
theorem dX2_join_76 : decode cX2_join 76 = .ok (.iadd, 1) := by decide +kernel
theorem dX2_join_77 : decode cX2_join 77 = .ok (.iload 5, 2) := by decide +kernel
theorem dX2_join_79 : decode cX2_join 79 = .ok (.invokevirtual 80, 3) := by decide +kernel
theorem dX2_join_82 : decode cX2_join 82 = .ok (.ireturn, 1) := by decide +kernel
set_option maxRecDepth 20000 in
theorem ggX2_lift_X2_needPiece : GoodIn wsX2_lift wsX2_needPiece := goodIn_ca (goodIn_r _ [8, 1, 2, 3, 30, 31, 32, 33, 34, 35, 36, 37, 38, 39, 40, 41, 42, 43, 44, 45, 46, 47, 48, 49, 50, 51, 52, 53, 54, 55] (by decide +kernel) (by decide +kernel)) (goodIn_sub (fun _ h => List.mem_cons_of_mem _ (List.mem_append_left _ (List.mem_append_right _ h))) (by decide +kernel))
set_option maxRecDepth 20000 in
theorem gX2_lift_X2_needPiece : GoodIn wsX2_lift (wsV RX2 66 RX2 yX2_needPiece wsX2_needPiece) := goodIn_app (goodIn_of _ (by decide +kernel)) ggX2_lift_X2_needPiece
set_option maxRecDepth 20000 in
theorem ggX2_lift_X2_joinEnds : GoodIn wsX2_lift wsX2_joinEnds := goodIn_ca (goodIn_ca (goodIn_r _ [12, 1, 2, 13, 14, 3, 15, 16, 17, 18, 19, 20, 21, 22, 23, 24, 25, 26, 27, 28, 29, 30, 31, 32, 33, 34, 35, 36, 37, 38, 39, 40, 41, 42, 43, 44, 45, 46, 47, 48, 49, 50, 51, 52, 53, 54, 55] (by decide +kernel) (by decide +kernel)) (goodIn_sub (fun _ h => List.mem_cons_of_mem _ (List.mem_append_left _ (List.mem_append_right _ h))) (by decide +kernel))) (goodIn_sub (fun _ h => List.mem_cons_of_mem _ (List.mem_append_right _ h)) (by decide +kernel))
set_option maxRecDepth 20000 in
theorem gX2_lift_X2_joinEnds : GoodIn wsX2_lift (wsV RX2 80 RX2 yX2_joinEnds wsX2_joinEnds) := goodIn_app (goodIn_of _ (by decide +kernel)) ggX2_lift_X2_joinEnds
theorem dX2_lift_0 : decode cX2_lift 0 = .ok (.aload_n 0, 1) := by decide +kernel
theorem dX2_lift_1 : decode cX2_lift 1 = .ok (.iload_n 1, 1) := by decide +kernel
theorem dX2_lift_2 : decode cX2_lift 2 = .ok (.invokevirtual 66, 3) := by decide +kernel
theorem dX2_lift_5 : decode cX2_lift 5 = .ok (.aload_n 0, 1) := by decide +kernel
theorem dX2_lift_6 : decode cX2_lift 6 = .ok (.iload_n 2, 1) := by decide +kernel
theorem dX2_lift_7 : decode cX2_lift 7 = .ok (.invokevirtual 66, 3) := by decide +kernel
theorem dX2_lift_10 : decode cX2_lift 10 = .ok (.aload_n 0, 1) := by decide +kernel
theorem dX2_lift_11 : decode cX2_lift 11 = .ok (.getfield 12, 3) := by decide +kernel
theorem dX2_lift_14 : decode cX2_lift 14 = .ok (.getfield 75, 3) := by decide +kernel
theorem dX2_lift_17 : decode cX2_lift 17 = .ok (.iload_n 1, 1) := by decide +kernel
theorem dX2_lift_18 : decode cX2_lift 18 = .ok (.iaload, 1) := by decide +kernel
theorem dX2_lift_19 : decode cX2_lift 19 = .ok (.aload_n 0, 1) := by decide +kernel
theorem dX2_lift_20 : decode cX2_lift 20 = .ok (.getfield 12, 3) := by decide +kernel
theorem dX2_lift_23 : decode cX2_lift 23 = .ok (.getfield 75, 3) := by decide +kernel
theorem dX2_lift_26 : decode cX2_lift 26 = .ok (.iload_n 2, 1) := by decide +kernel
theorem dX2_lift_27 : decode cX2_lift 27 = .ok (.iaload, 1) := by decide +kernel
theorem dX2_lift_28 : decode cX2_lift 28 = .ok (.if_icmp .ne 13, 3) := by decide +kernel
theorem dX2_lift_31 : decode cX2_lift 31 = .ok (.new 41, 3) := by decide +kernel
theorem dX2_lift_34 : decode cX2_lift 34 = .ok (.dup, 1) := by decide +kernel
theorem dX2_lift_35 : decode cX2_lift 35 = .ok (.ldc 84, 2) := by decide +kernel
theorem dX2_lift_37 : decode cX2_lift 37 = .ok (.invokespecial 45, 3) := by decide +kernel
theorem dX2_lift_40 : decode cX2_lift 40 = .ok (.athrow, 1) := by decide +kernel
theorem dX2_lift_41 : decode cX2_lift 41 = .ok (.aload_n 0, 1) := by decide +kernel
theorem dX2_lift_42 : decode cX2_lift 42 = .ok (.iconst 2, 1) := by decide +kernel
theorem dX2_lift_43 : decode cX2_lift 43 = .ok (.iload_n 1, 1) := by decide +kernel
theorem dX2_lift_44 : decode cX2_lift 44 = .ok (.imul, 1) := by decide +kernel
theorem dX2_lift_45 : decode cX2_lift 45 = .ok (.iconst 1, 1) := by decide +kernel
theorem dX2_lift_46 : decode cX2_lift 46 = .ok (.iadd, 1) := by decide +kernel
theorem dX2_lift_47 : decode cX2_lift 47 = .ok (.iconst 2, 1) := by decide +kernel
theorem dX2_lift_48 : decode cX2_lift 48 = .ok (.iload_n 2, 1) := by decide +kernel
theorem dX2_lift_49 : decode cX2_lift 49 = .ok (.imul, 1) := by decide +kernel
theorem dX2_lift_50 : decode cX2_lift 50 = .ok (.iconst 1, 1) := by decide +kernel
theorem dX2_lift_51 : decode cX2_lift 51 = .ok (.iadd, 1) := by decide +kernel
theorem dX2_lift_52 : decode cX2_lift 52 = .ok (.iload_n 3, 1) := by decide +kernel
theorem dX2_lift_53 : decode cX2_lift 53 = .ok (.invokevirtual 80, 3) := by decide +kernel
theorem dX2_lift_56 : decode cX2_lift 56 = .ok (.ireturn, 1) := by decide +kernel
set_option maxRecDepth 20000 in
theorem ggX2_turn_X2_needZeroOrOne : GoodIn wsX2_turn wsX2_needZeroOrOne := goodIn_ca (goodIn_r _ [8, 1, 2] (by decide +kernel) (by decide +kernel)) (goodIn_sub (fun _ h => List.mem_cons_of_mem _ (List.mem_append_right _ h)) (by decide +kernel))
set_option maxRecDepth 20000 in
theorem gX2_turn_X2_needZeroOrOne : GoodIn wsX2_turn (va_wsS RX2 70 yX2_needZeroOrOne wsX2_needZeroOrOne) := goodIn_app (goodIn_of _ (by decide +kernel)) ggX2_turn_X2_needZeroOrOne
set_option maxRecDepth 20000 in
theorem ggX2_turn_X1_barredAmong : GoodIn wsX2_turn wsX1_barredAmong := goodIn_r _ [12, 13, 26, 27, 28, 29, 30, 31, 32, 33, 34, 35, 36, 37, 38, 39] (by decide +kernel) (by decide +kernel)
set_option maxRecDepth 20000 in
theorem gX2_turn_X1_barredAmong_n95 : GoodIn wsX2_turn (wsX1_barredAmong) := ggX2_turn_X1_barredAmong
theorem dX2_turn_0 : decode cX2_turn 0 = .ok (.iload_n 1, 1) := by decide +kernel
theorem dX2_turn_1 : decode cX2_turn 1 = .ok (.ifCond .lt 16, 3) := by decide +kernel
theorem dX2_turn_4 : decode cX2_turn 4 = .ok (.iload_n 1, 1) := by decide +kernel
theorem dX2_turn_5 : decode cX2_turn 5 = .ok (.aload_n 0, 1) := by decide +kernel
theorem dX2_turn_6 : decode cX2_turn 6 = .ok (.getfield 12, 3) := by decide +kernel
theorem dX2_turn_9 : decode cX2_turn 9 = .ok (.getfield 86, 3) := by decide +kernel
theorem dX2_turn_12 : decode cX2_turn 12 = .ok (.iconst 2, 1) := by decide +kernel
theorem dX2_turn_13 : decode cX2_turn 13 = .ok (.idiv, 1) := by decide +kernel
theorem dX2_turn_14 : decode cX2_turn 14 = .ok (.if_icmp .lt 13, 3) := by decide +kernel
theorem dX2_turn_17 : decode cX2_turn 17 = .ok (.new 41, 3) := by decide +kernel
theorem dX2_turn_20 : decode cX2_turn 20 = .ok (.dup, 1) := by decide +kernel
theorem dX2_turn_21 : decode cX2_turn 21 = .ok (.ldc 89, 2) := by decide +kernel
theorem dX2_turn_23 : decode cX2_turn 23 = .ok (.invokespecial 45, 3) := by decide +kernel
theorem dX2_turn_26 : decode cX2_turn 26 = .ok (.athrow, 1) := by decide +kernel
theorem dX2_turn_27 : decode cX2_turn 27 = .ok (.iload_n 2, 1) := by decide +kernel
theorem dX2_turn_28 : decode cX2_turn 28 = .ok (.invokestatic 70, 3) := by decide +kernel
theorem dX2_turn_31 : decode cX2_turn 31 = .ok (.aload_n 0, 1) := by decide +kernel
theorem dX2_turn_32 : decode cX2_turn 32 = .ok (.dup, 1) := by decide +kernel
theorem dX2_turn_33 : decode cX2_turn 33 = .ok (.getfield 59, 3) := by decide +kernel
theorem dX2_turn_36 : decode cX2_turn 36 = .ok (.iconst 1, 1) := by decide +kernel
theorem dX2_turn_37 : decode cX2_turn 37 = .ok (.iadd, 1) := by decide +kernel
theorem dX2_turn_38 : decode cX2_turn 38 = .ok (.putfield 59, 3) := by decide +kernel
theorem dX2_turn_41 : decode cX2_turn 41 = .ok (.aload_n 0, 1) := by decide +kernel
theorem dX2_turn_42 : decode cX2_turn 42 = .ok (.getfield 12, 3) := by decide +kernel
theorem dX2_turn_45 : decode cX2_turn 45 = .ok (.getfield 91, 3) := by decide +kernel
theorem dX2_turn_48 : decode cX2_turn 48 = .ok (.iconst 2, 1) := by decide +kernel
theorem dX2_turn_49 : decode cX2_turn 49 = .ok (.iload_n 1, 1) := by decide +kernel
theorem dX2_turn_50 : decode cX2_turn 50 = .ok (.imul, 1) := by decide +kernel
theorem dX2_turn_51 : decode cX2_turn 51 = .ok (.iload_n 2, 1) := by decide +kernel
theorem dX2_turn_52 : decode cX2_turn 52 = .ok (.iadd, 1) := by decide +kernel
theorem dX2_turn_53 : decode cX2_turn 53 = .ok (.iload_n 3, 1) := by decide +kernel
theorem dX2_turn_54 : decode cX2_turn 54 = .ok (.bastore, 1) := by decide +kernel
theorem dX2_turn_55 : decode cX2_turn 55 = .ok (.aload_n 0, 1) := by decide +kernel
theorem dX2_turn_56 : decode cX2_turn 56 = .ok (.getfield 12, 3) := by decide +kernel
theorem dX2_turn_59 : decode cX2_turn 59 = .ok (.iconst 2, 1) := by decide +kernel
theorem dX2_turn_60 : decode cX2_turn 60 = .ok (.iload_n 1, 1) := by decide +kernel
theorem dX2_turn_61 : decode cX2_turn 61 = .ok (.imul, 1) := by decide +kernel
theorem dX2_turn_62 : decode cX2_turn 62 = .ok (.iconst 2, 1) := by decide +kernel
theorem dX2_turn_63 : decode cX2_turn 63 = .ok (.iload_n 1, 1) := by decide +kernel
theorem dX2_turn_64 : decode cX2_turn 64 = .ok (.imul, 1) := by decide +kernel
theorem dX2_turn_65 : decode cX2_turn 65 = .ok (.iconst 2, 1) := by decide +kernel
theorem dX2_turn_66 : decode cX2_turn 66 = .ok (.iadd, 1) := by decide +kernel
theorem dX2_turn_67 : decode cX2_turn 67 = .ok (.invokevirtual 95, 3) := by decide +kernel
theorem dX2_turn_70 : decode cX2_turn 70 = .ok (.ireturn, 1) := by decide +kernel
set_option maxRecDepth 20000 in
theorem ggX2_width_X2_needPiece : GoodIn wsX2_width wsX2_needPiece := goodIn_ca (goodIn_r _ [7, 8, 9, 2, 13, 14, 15, 16, 17, 18, 19, 20, 21, 22, 23, 24, 25, 26, 27, 28, 29, 30, 31, 32, 33, 34, 35, 36, 37, 38] (by decide +kernel) (by decide +kernel)) (goodIn_sub (fun _ h => List.mem_cons_of_mem _ (List.mem_append_right _ h)) (by decide +kernel))
set_option maxRecDepth 20000 in
theorem gX2_width_X2_needPiece : GoodIn wsX2_width (wsV RX2 66 RX2 yX2_needPiece wsX2_needPiece) := goodIn_app (goodIn_of _ (by decide +kernel)) ggX2_width_X2_needPiece
set_option maxRecDepth 20000 in
theorem ggX2_width_X2_needWidth : GoodIn wsX2_width wsX2_needWidth := goodIn_ca (goodIn_r _ [12, 8, 9] (by decide +kernel) (by decide +kernel)) (goodIn_sub (fun _ h => List.mem_cons_of_mem _ (List.mem_append_right _ h)) (by decide +kernel))
set_option maxRecDepth 20000 in
theorem gX2_width_X2_needWidth : GoodIn wsX2_width (va_wsS RX2 99 yX2_needWidth wsX2_needWidth) := goodIn_app (goodIn_of _ (by decide +kernel)) ggX2_width_X2_needWidth
theorem dX2_width_0 : decode cX2_width 0 = .ok (.aload_n 0, 1) := by decide +kernel
theorem dX2_width_1 : decode cX2_width 1 = .ok (.iload_n 1, 1) := by decide +kernel
theorem dX2_width_2 : decode cX2_width 2 = .ok (.invokevirtual 66, 3) := by decide +kernel
theorem dX2_width_5 : decode cX2_width 5 = .ok (.iload_n 2, 1) := by decide +kernel
theorem dX2_width_6 : decode cX2_width 6 = .ok (.invokestatic 99, 3) := by decide +kernel
theorem dX2_width_9 : decode cX2_width 9 = .ok (.aload_n 0, 1) := by decide +kernel
theorem dX2_width_10 : decode cX2_width 10 = .ok (.dup, 1) := by decide +kernel
theorem dX2_width_11 : decode cX2_width 11 = .ok (.getfield 59, 3) := by decide +kernel
theorem dX2_width_14 : decode cX2_width 14 = .ok (.iconst 1, 1) := by decide +kernel
theorem dX2_width_15 : decode cX2_width 15 = .ok (.iadd, 1) := by decide +kernel
theorem dX2_width_16 : decode cX2_width 16 = .ok (.putfield 59, 3) := by decide +kernel
theorem dX2_width_19 : decode cX2_width 19 = .ok (.aload_n 0, 1) := by decide +kernel
theorem dX2_width_20 : decode cX2_width 20 = .ok (.getfield 12, 3) := by decide +kernel
theorem dX2_width_23 : decode cX2_width 23 = .ok (.getfield 102, 3) := by decide +kernel
theorem dX2_width_26 : decode cX2_width 26 = .ok (.iload_n 1, 1) := by decide +kernel
theorem dX2_width_27 : decode cX2_width 27 = .ok (.iload_n 2, 1) := by decide +kernel
theorem dX2_width_28 : decode cX2_width 28 = .ok (.iastore, 1) := by decide +kernel
theorem dX2_width_29 : decode cX2_width 29 = .ok (.return_, 1) := by decide +kernel
set_option maxRecDepth 20000 in
theorem ggX2_zone_X2_needPiece : GoodIn wsX2_zone wsX2_needPiece := goodIn_ca (goodIn_r _ [7, 8, 9, 2, 25, 26, 27, 28, 29, 30, 31, 32, 33, 34, 35, 36, 37, 38, 39, 40, 41, 42, 43, 44, 45, 46, 47, 48, 49, 50] (by decide +kernel) (by decide +kernel)) (goodIn_sub (fun _ h => List.mem_cons_of_mem _ (List.mem_append_right _ h)) (by decide +kernel))
set_option maxRecDepth 20000 in
theorem gX2_zone_X2_needPiece : GoodIn wsX2_zone (wsV RX2 66 RX2 yX2_needPiece wsX2_needPiece) := goodIn_app (goodIn_of _ (by decide +kernel)) ggX2_zone_X2_needPiece
set_option maxRecDepth 20000 in
theorem ggX2_zone_X2_needHour : GoodIn wsX2_zone wsX2_needHour := goodIn_ca (goodIn_r _ [12, 8, 9] (by decide +kernel) (by decide +kernel)) (goodIn_sub (fun _ h => List.mem_cons_of_mem _ (List.mem_append_right _ h)) (by decide +kernel))
set_option maxRecDepth 20000 in
theorem gX2_zone_X2_needHour : GoodIn wsX2_zone (va_wsS RX2 105 yX2_needHour wsX2_needHour) := goodIn_app (goodIn_of _ (by decide +kernel)) ggX2_zone_X2_needHour
set_option maxRecDepth 20000 in
theorem ggX2_zone_X1_setZone : GoodIn wsX2_zone wsX1_setZone := goodIn_r _ [16, 17, 18, 19, 20, 21, 22, 23, 24, 37, 38, 39, 40, 41, 42, 43, 44, 45, 46, 47, 48, 49, 50] (by decide +kernel) (by decide +kernel)
set_option maxRecDepth 20000 in
theorem gX2_zone_X1_setZone_n108 : GoodIn wsX2_zone (wsX1_setZone) := ggX2_zone_X1_setZone
theorem dX2_zone_0 : decode cX2_zone 0 = .ok (.aload_n 0, 1) := by decide +kernel
theorem dX2_zone_1 : decode cX2_zone 1 = .ok (.iload_n 1, 1) := by decide +kernel
theorem dX2_zone_2 : decode cX2_zone 2 = .ok (.invokevirtual 66, 3) := by decide +kernel
theorem dX2_zone_5 : decode cX2_zone 5 = .ok (.iload_n 2, 1) := by decide +kernel
theorem dX2_zone_6 : decode cX2_zone 6 = .ok (.invokestatic 105, 3) := by decide +kernel
theorem dX2_zone_9 : decode cX2_zone 9 = .ok (.aload_n 0, 1) := by decide +kernel
theorem dX2_zone_10 : decode cX2_zone 10 = .ok (.dup, 1) := by decide +kernel
theorem dX2_zone_11 : decode cX2_zone 11 = .ok (.getfield 59, 3) := by decide +kernel
theorem dX2_zone_14 : decode cX2_zone 14 = .ok (.iconst 1, 1) := by decide +kernel
theorem dX2_zone_15 : decode cX2_zone 15 = .ok (.iadd, 1) := by decide +kernel
theorem dX2_zone_16 : decode cX2_zone 16 = .ok (.putfield 59, 3) := by decide +kernel
theorem dX2_zone_19 : decode cX2_zone 19 = .ok (.aload_n 0, 1) := by decide +kernel
theorem dX2_zone_20 : decode cX2_zone 20 = .ok (.getfield 12, 3) := by decide +kernel
theorem dX2_zone_23 : decode cX2_zone 23 = .ok (.iload_n 1, 1) := by decide +kernel
theorem dX2_zone_24 : decode cX2_zone 24 = .ok (.iload_n 2, 1) := by decide +kernel
theorem dX2_zone_25 : decode cX2_zone 25 = .ok (.iload_n 3, 1) := by decide +kernel
theorem dX2_zone_26 : decode cX2_zone 26 = .ok (.invokevirtual 108, 3) := by decide +kernel
theorem dX2_zone_29 : decode cX2_zone 29 = .ok (.ireturn, 1) := by decide +kernel
set_option maxRecDepth 20000 in
theorem ggX2_closed_X2_needPiece : GoodIn wsX2_closed wsX2_needPiece := goodIn_ca (goodIn_r _ [7, 8, 9, 2, 16, 17, 18, 19, 20, 21, 22, 23, 24, 25, 26, 27, 28, 29, 30, 31, 32, 33, 34, 35, 36, 37, 38, 39, 40, 41] (by decide +kernel) (by decide +kernel)) (goodIn_sub (fun _ h => List.mem_cons_of_mem _ (List.mem_append_right _ h)) (by decide +kernel))
set_option maxRecDepth 20000 in
theorem gX2_closed_X2_needPiece : GoodIn wsX2_closed (wsV RX2 66 RX2 yX2_needPiece wsX2_needPiece) := goodIn_app (goodIn_of _ (by decide +kernel)) ggX2_closed_X2_needPiece
set_option maxRecDepth 20000 in
theorem ggX2_closed_X1_shutPieces : GoodIn wsX2_closed wsX1_shutPieces := goodIn_r _ [13, 14, 15, 28, 29, 30, 31, 32, 33, 34, 35, 36, 37, 38, 39, 40, 41] (by decide +kernel) (by decide +kernel)
set_option maxRecDepth 20000 in
theorem gX2_closed_X1_shutPieces_n114 : GoodIn wsX2_closed (wsX1_shutPieces) := ggX2_closed_X1_shutPieces
theorem dX2_closed_0 : decode cX2_closed 0 = .ok (.aload_n 0, 1) := by decide +kernel
theorem dX2_closed_1 : decode cX2_closed 1 = .ok (.iload_n 1, 1) := by decide +kernel
theorem dX2_closed_2 : decode cX2_closed 2 = .ok (.invokevirtual 66, 3) := by decide +kernel
theorem dX2_closed_5 : decode cX2_closed 5 = .ok (.aload_n 0, 1) := by decide +kernel
theorem dX2_closed_6 : decode cX2_closed 6 = .ok (.dup, 1) := by decide +kernel
theorem dX2_closed_7 : decode cX2_closed 7 = .ok (.getfield 59, 3) := by decide +kernel
theorem dX2_closed_10 : decode cX2_closed 10 = .ok (.iconst 1, 1) := by decide +kernel
theorem dX2_closed_11 : decode cX2_closed 11 = .ok (.iadd, 1) := by decide +kernel
theorem dX2_closed_12 : decode cX2_closed 12 = .ok (.putfield 59, 3) := by decide +kernel
theorem dX2_closed_15 : decode cX2_closed 15 = .ok (.aload_n 0, 1) := by decide +kernel
theorem dX2_closed_16 : decode cX2_closed 16 = .ok (.getfield 12, 3) := by decide +kernel
theorem dX2_closed_19 : decode cX2_closed 19 = .ok (.getfield 111, 3) := by decide +kernel
theorem dX2_closed_22 : decode cX2_closed 22 = .ok (.iload_n 1, 1) := by decide +kernel
theorem dX2_closed_23 : decode cX2_closed 23 = .ok (.iload_n 2, 1) := by decide +kernel
theorem dX2_closed_24 : decode cX2_closed 24 = .ok (.bastore, 1) := by decide +kernel
theorem dX2_closed_25 : decode cX2_closed 25 = .ok (.aload_n 0, 1) := by decide +kernel
theorem dX2_closed_26 : decode cX2_closed 26 = .ok (.getfield 12, 3) := by decide +kernel
theorem dX2_closed_29 : decode cX2_closed 29 = .ok (.invokevirtual 114, 3) := by decide +kernel
theorem dX2_closed_32 : decode cX2_closed 32 = .ok (.ireturn, 1) := by decide +kernel
set_option maxRecDepth 20000 in
theorem ggX2_robot_X2_needWidth : GoodIn wsX2_robot wsX2_needWidth := goodIn_ca (goodIn_r _ [10, 11, 12] (by decide +kernel) (by decide +kernel)) (goodIn_sub (fun _ h => List.mem_cons_of_mem _ (List.mem_append_right _ h)) (by decide +kernel))
set_option maxRecDepth 20000 in
theorem gX2_robot_X2_needWidth : GoodIn wsX2_robot (va_wsS RX2 99 yX2_needWidth wsX2_needWidth) := goodIn_app (goodIn_of _ (by decide +kernel)) ggX2_robot_X2_needWidth
set_option maxRecDepth 20000 in
theorem ggX2_robot_X1_hasPieceFor : GoodIn wsX2_robot wsX1_hasPieceFor := goodIn_r _ [16, 17, 18, 31, 32, 33, 34, 35, 36, 37, 38, 39, 40, 41, 42, 43, 44] (by decide +kernel) (by decide +kernel)
set_option maxRecDepth 20000 in
theorem gX2_robot_X1_hasPieceFor_n123 : GoodIn wsX2_robot (wsX1_hasPieceFor) := ggX2_robot_X1_hasPieceFor
theorem dX2_robot_0 : decode cX2_robot 0 = .ok (.iload_n 1, 1) := by decide +kernel
theorem dX2_robot_1 : decode cX2_robot 1 = .ok (.invokestatic 99, 3) := by decide +kernel
theorem dX2_robot_4 : decode cX2_robot 4 = .ok (.aload_n 0, 1) := by decide +kernel
theorem dX2_robot_5 : decode cX2_robot 5 = .ok (.getfield 118, 3) := by decide +kernel
theorem dX2_robot_8 : decode cX2_robot 8 = .ok (.bipush 6, 2) := by decide +kernel
theorem dX2_robot_10 : decode cX2_robot 10 = .ok (.if_icmp .lt 13, 3) := by decide +kernel
theorem dX2_robot_13 : decode cX2_robot 13 = .ok (.new 54, 3) := by decide +kernel
theorem dX2_robot_16 : decode cX2_robot 16 = .ok (.dup, 1) := by decide +kernel
theorem dX2_robot_17 : decode cX2_robot 17 = .ok (.ldc 121, 2) := by decide +kernel
theorem dX2_robot_19 : decode cX2_robot 19 = .ok (.invokespecial 58, 3) := by decide +kernel
theorem dX2_robot_22 : decode cX2_robot 22 = .ok (.athrow, 1) := by decide +kernel
theorem dX2_robot_23 : decode cX2_robot 23 = .ok (.aload_n 0, 1) := by decide +kernel
theorem dX2_robot_24 : decode cX2_robot 24 = .ok (.getfield 12, 3) := by decide +kernel
theorem dX2_robot_27 : decode cX2_robot 27 = .ok (.iload_n 1, 1) := by decide +kernel
theorem dX2_robot_28 : decode cX2_robot 28 = .ok (.invokevirtual 123, 3) := by decide +kernel
theorem dX2_robot_31 : decode cX2_robot 31 = .ok (.ifCond .ne 5, 3) := by decide +kernel
theorem dX2_robot_34 : decode cX2_robot 34 = .ok (.iconst (-1), 1) := by decide +kernel
theorem dX2_robot_35 : decode cX2_robot 35 = .ok (.ireturn, 1) := by decide +kernel
theorem dX2_robot_36 : decode cX2_robot 36 = .ok (.aload_n 0, 1) := by decide +kernel
theorem dX2_robot_37 : decode cX2_robot 37 = .ok (.dup, 1) := by decide +kernel
theorem dX2_robot_38 : decode cX2_robot 38 = .ok (.getfield 59, 3) := by decide +kernel
theorem dX2_robot_41 : decode cX2_robot 41 = .ok (.iconst 1, 1) := by decide +kernel
theorem dX2_robot_42 : decode cX2_robot 42 = .ok (.iadd, 1) := by decide +kernel
theorem dX2_robot_43 : decode cX2_robot 43 = .ok (.putfield 59, 3) := by decide +kernel
theorem dX2_robot_46 : decode cX2_robot 46 = .ok (.aload_n 0, 1) := by decide +kernel
theorem dX2_robot_47 : decode cX2_robot 47 = .ok (.getfield 23, 3) := by decide +kernel
theorem dX2_robot_50 : decode cX2_robot 50 = .ok (.aload_n 0, 1) := by decide +kernel
theorem dX2_robot_51 : decode cX2_robot 51 = .ok (.getfield 118, 3) := by decide +kernel
theorem dX2_robot_54 : decode cX2_robot 54 = .ok (.iload_n 1, 1) := by decide +kernel
theorem dX2_robot_55 : decode cX2_robot 55 = .ok (.iastore, 1) := by decide +kernel
theorem dX2_robot_56 : decode cX2_robot 56 = .ok (.aload_n 0, 1) := by decide +kernel
theorem dX2_robot_57 : decode cX2_robot 57 = .ok (.dup, 1) := by decide +kernel
theorem dX2_robot_58 : decode cX2_robot 58 = .ok (.getfield 118, 3) := by decide +kernel
theorem dX2_robot_61 : decode cX2_robot 61 = .ok (.iconst 1, 1) := by decide +kernel
theorem dX2_robot_62 : decode cX2_robot 62 = .ok (.iadd, 1) := by decide +kernel
theorem dX2_robot_63 : decode cX2_robot 63 = .ok (.putfield 118, 3) := by decide +kernel
theorem dX2_robot_66 : decode cX2_robot 66 = .ok (.aload_n 0, 1) := by decide +kernel
theorem dX2_robot_67 : decode cX2_robot 67 = .ok (.getfield 118, 3) := by decide +kernel
theorem dX2_robot_70 : decode cX2_robot 70 = .ok (.iconst 1, 1) := by decide +kernel
theorem dX2_robot_71 : decode cX2_robot 71 = .ok (.isub, 1) := by decide +kernel
theorem dX2_robot_72 : decode cX2_robot 72 = .ok (.ireturn, 1) := by decide +kernel
set_option maxRecDepth 20000 in
theorem ggX2_way_X2_needJourney : GoodIn wsX2_way wsX2_needJourney := goodIn_ca (goodIn_r _ [10, 11, 12, 13, 14, 15, 16, 9, 17, 2, 18, 19, 20, 72, 73, 74, 75, 76, 77, 78, 79, 80, 81, 82, 83, 84, 85, 86, 87, 88, 89, 90, 91, 92, 93, 94, 95, 96, 97] (by decide +kernel) (by decide +kernel)) (goodIn_sub (fun _ h => List.mem_cons_of_mem _ (List.mem_append_right _ h)) (by decide +kernel))
set_option maxRecDepth 20000 in
theorem gX2_way_X2_needJourney : GoodIn wsX2_way (wsV RX2 127 RX2 yX2_needJourney wsX2_needJourney) := goodIn_app (goodIn_of _ (by decide +kernel)) ggX2_way_X2_needJourney
set_option maxRecDepth 20000 in
theorem ggX2_way_X0_begin : GoodIn wsX2_way wsX0_begin := goodIn_r _ [24, 25, 26, 27, 28, 29, 30, 31, 32, 33, 84, 85, 86, 87, 88, 89, 90, 91, 92, 93, 94, 95, 96, 97, 98, 99, 100] (by decide +kernel) (by decide +kernel)
set_option maxRecDepth 20000 in
theorem gX2_way_X0_begin_n131 : GoodIn wsX2_way (wsX0_begin) := ggX2_way_X0_begin
set_option maxRecDepth 20000 in
theorem ggX2_way_X0_spread : GoodIn wsX2_way wsX0_spread := goodIn_r _ [36, 37, 38, 39, 40, 41, 42, 43, 27, 44, 45, 33, 46, 47, 48, 22, 49, 50, 51, 52, 53, 54, 55, 56, 57, 25, 98, 99, 100, 84, 85, 86, 87, 88, 89, 90, 91, 92, 93, 94, 95, 96, 97] (by decide +kernel) (by decide +kernel)
set_option maxRecDepth 20000 in
theorem gX2_way_X0_spread_n135 : GoodIn wsX2_way (wsX0_spread) := ggX2_way_X0_spread
set_option maxRecDepth 20000 in
theorem ggX2_way_X0_trace : GoodIn wsX2_way wsX0_trace := goodIn_r _ [60, 61, 62, 63, 22, 64, 38, 54, 55, 56, 57, 37, 25, 65, 66, 67, 68, 50, 51, 52, 53, 84, 85, 86, 87, 88, 89, 90, 91, 92, 93, 94, 95, 96, 97, 98, 99, 100] (by decide +kernel) (by decide +kernel)
set_option maxRecDepth 20000 in
theorem gX2_way_X0_trace_n139 : GoodIn wsX2_way (wsX0_trace) := ggX2_way_X0_trace
set_option maxRecDepth 20000 in
theorem ggX2_way_X0_secondsTo : GoodIn wsX2_way wsX0_secondsTo := goodIn_r _ [71, 61, 62, 63, 22, 64, 38, 54, 55, 56, 57, 37, 25, 84, 85, 86, 87, 88, 89, 90, 91, 92, 93, 94, 95, 96, 97, 98, 99, 100] (by decide +kernel) (by decide +kernel)
set_option maxRecDepth 20000 in
theorem gX2_way_X0_secondsTo_n146 : GoodIn wsX2_way (wsX0_secondsTo) := ggX2_way_X0_secondsTo
theorem dX2_way_0 : decode cX2_way 0 = .ok (.aload_n 0, 1) := by decide +kernel
theorem dX2_way_1 : decode cX2_way 1 = .ok (.iload_n 1, 1) := by decide +kernel
theorem dX2_way_2 : decode cX2_way 2 = .ok (.iload_n 2, 1) := by decide +kernel
theorem dX2_way_3 : decode cX2_way 3 = .ok (.iload_n 3, 1) := by decide +kernel
theorem dX2_way_4 : decode cX2_way 4 = .ok (.iload 4, 2) := by decide +kernel
theorem dX2_way_6 : decode cX2_way 6 = .ok (.invokevirtual 127, 3) := by decide +kernel
theorem dX2_way_9 : decode cX2_way 9 = .ok (.aload_n 0, 1) := by decide +kernel
theorem dX2_way_10 : decode cX2_way 10 = .ok (.getfield 19, 3) := by decide +kernel
theorem dX2_way_13 : decode cX2_way 13 = .ok (.aload_n 0, 1) := by decide +kernel
theorem dX2_way_14 : decode cX2_way 14 = .ok (.getfield 12, 3) := by decide +kernel
theorem dX2_way_17 : decode cX2_way 17 = .ok (.aload_n 0, 1) := by decide +kernel
theorem dX2_way_18 : decode cX2_way 18 = .ok (.getfield 23, 3) := by decide +kernel
theorem dX2_way_21 : decode cX2_way 21 = .ok (.iload_n 1, 1) := by decide +kernel
theorem dX2_way_22 : decode cX2_way 22 = .ok (.iaload, 1) := by decide +kernel
theorem dX2_way_23 : decode cX2_way 23 = .ok (.iload 4, 2) := by decide +kernel
theorem dX2_way_25 : decode cX2_way 25 = .ok (.invokevirtual 131, 3) := by decide +kernel
theorem dX2_way_28 : decode cX2_way 28 = .ok (.aload_n 0, 1) := by decide +kernel
theorem dX2_way_29 : decode cX2_way 29 = .ok (.getfield 19, 3) := by decide +kernel
theorem dX2_way_32 : decode cX2_way 32 = .ok (.aload_n 0, 1) := by decide +kernel
theorem dX2_way_33 : decode cX2_way 33 = .ok (.getfield 12, 3) := by decide +kernel
theorem dX2_way_36 : decode cX2_way 36 = .ok (.iload_n 2, 1) := by decide +kernel
theorem dX2_way_37 : decode cX2_way 37 = .ok (.invokevirtual 135, 3) := by decide +kernel
theorem dX2_way_40 : decode cX2_way 40 = .ok (.aload_n 0, 1) := by decide +kernel
theorem dX2_way_41 : decode cX2_way 41 = .ok (.aload_n 0, 1) := by decide +kernel
theorem dX2_way_42 : decode cX2_way 42 = .ok (.getfield 19, 3) := by decide +kernel
theorem dX2_way_45 : decode cX2_way 45 = .ok (.aload_n 0, 1) := by decide +kernel
theorem dX2_way_46 : decode cX2_way 46 = .ok (.getfield 12, 3) := by decide +kernel
theorem dX2_way_49 : decode cX2_way 49 = .ok (.iload_n 2, 1) := by decide +kernel
theorem dX2_way_50 : decode cX2_way 50 = .ok (.iload_n 3, 1) := by decide +kernel
theorem dX2_way_51 : decode cX2_way 51 = .ok (.aload_n 0, 1) := by decide +kernel
theorem dX2_way_52 : decode cX2_way 52 = .ok (.getfield 30, 3) := by decide +kernel
theorem dX2_way_55 : decode cX2_way 55 = .ok (.invokevirtual 139, 3) := by decide +kernel
theorem dX2_way_58 : decode cX2_way 58 = .ok (.putfield 143, 3) := by decide +kernel
theorem dX2_way_61 : decode cX2_way 61 = .ok (.aload_n 0, 1) := by decide +kernel
theorem dX2_way_62 : decode cX2_way 62 = .ok (.getfield 19, 3) := by decide +kernel
theorem dX2_way_65 : decode cX2_way 65 = .ok (.aload_n 0, 1) := by decide +kernel
theorem dX2_way_66 : decode cX2_way 66 = .ok (.getfield 12, 3) := by decide +kernel
theorem dX2_way_69 : decode cX2_way 69 = .ok (.iload_n 2, 1) := by decide +kernel
theorem dX2_way_70 : decode cX2_way 70 = .ok (.iload_n 3, 1) := by decide +kernel
theorem dX2_way_71 : decode cX2_way 71 = .ok (.invokevirtual 146, 3) := by decide +kernel
theorem dX2_way_74 : decode cX2_way 74 = .ok (.ireturn, 1) := by decide +kernel
theorem dX2_step_0 : decode cX2_step 0 = .ok (.iload_n 1, 1) := by decide +kernel
theorem dX2_step_1 : decode cX2_step 1 = .ok (.ifCond .lt 11, 3) := by decide +kernel
theorem dX2_step_4 : decode cX2_step 4 = .ok (.iload_n 1, 1) := by decide +kernel
theorem dX2_step_5 : decode cX2_step 5 = .ok (.aload_n 0, 1) := by decide +kernel
theorem dX2_step_6 : decode cX2_step 6 = .ok (.getfield 143, 3) := by decide +kernel
theorem dX2_step_9 : decode cX2_step 9 = .ok (.if_icmp .lt 5, 3) := by decide +kernel
theorem dX2_step_12 : decode cX2_step 12 = .ok (.iconst (-1), 1) := by decide +kernel
theorem dX2_step_13 : decode cX2_step 13 = .ok (.ireturn, 1) := by decide +kernel
theorem dX2_step_14 : decode cX2_step 14 = .ok (.aload_n 0, 1) := by decide +kernel
theorem dX2_step_15 : decode cX2_step 15 = .ok (.getfield 30, 3) := by decide +kernel
theorem dX2_step_18 : decode cX2_step 18 = .ok (.aload_n 0, 1) := by decide +kernel
theorem dX2_step_19 : decode cX2_step 19 = .ok (.getfield 143, 3) := by decide +kernel
theorem dX2_step_22 : decode cX2_step 22 = .ok (.iconst 1, 1) := by decide +kernel
theorem dX2_step_23 : decode cX2_step 23 = .ok (.isub, 1) := by decide +kernel
theorem dX2_step_24 : decode cX2_step 24 = .ok (.iload_n 1, 1) := by decide +kernel
theorem dX2_step_25 : decode cX2_step 25 = .ok (.isub, 1) := by decide +kernel
theorem dX2_step_26 : decode cX2_step 26 = .ok (.iaload, 1) := by decide +kernel
theorem dX2_step_27 : decode cX2_step 27 = .ok (.ireturn, 1) := by decide +kernel
set_option maxRecDepth 20000 in
theorem ggX2_same_X2_needJourney : GoodIn wsX2_same wsX2_needJourney := goodIn_ca (goodIn_r _ [8, 9, 10, 11, 12, 13, 14, 7, 15, 2, 16, 17, 18, 63, 64, 65, 66, 67, 68, 69, 70, 71, 72, 73, 74, 75, 76, 77, 78, 79, 80, 81, 82, 83, 84, 85, 86, 87, 88] (by decide +kernel) (by decide +kernel)) (goodIn_sub (fun _ h => List.mem_cons_of_mem _ (List.mem_append_right _ h)) (by decide +kernel))
set_option maxRecDepth 20000 in
theorem gX2_same_X2_needJourney : GoodIn wsX2_same (wsV RX2 127 RX2 yX2_needJourney wsX2_needJourney) := goodIn_app (goodIn_of _ (by decide +kernel)) ggX2_same_X2_needJourney
set_option maxRecDepth 20000 in
theorem ggX2_same_X0_begin : GoodIn wsX2_same wsX0_begin := goodIn_r _ [22, 23, 24, 25, 26, 27, 28, 29, 30, 31, 75, 76, 77, 78, 79, 80, 81, 82, 83, 84, 85, 86, 87, 88, 89, 90, 91] (by decide +kernel) (by decide +kernel)
set_option maxRecDepth 20000 in
theorem gX2_same_X0_begin_n131 : GoodIn wsX2_same (wsX0_begin) := ggX2_same_X0_begin
set_option maxRecDepth 20000 in
theorem ggX2_same_X0_spread : GoodIn wsX2_same wsX0_spread := goodIn_r _ [34, 35, 36, 37, 38, 39, 40, 41, 25, 42, 43, 31, 44, 45, 46, 20, 47, 48, 49, 50, 51, 52, 53, 54, 55, 23, 89, 90, 91, 75, 76, 77, 78, 79, 80, 81, 82, 83, 84, 85, 86, 87, 88] (by decide +kernel) (by decide +kernel)
set_option maxRecDepth 20000 in
theorem gX2_same_X0_spread_n135 : GoodIn wsX2_same (wsX0_spread) := ggX2_same_X0_spread
set_option maxRecDepth 20000 in
theorem ggX2_same_X0_secondsTo : GoodIn wsX2_same wsX0_secondsTo := goodIn_r _ [58, 59, 60, 61, 20, 62, 36, 52, 53, 54, 55, 35, 23, 75, 76, 77, 78, 79, 80, 81, 82, 83, 84, 85, 86, 87, 88, 89, 90, 91] (by decide +kernel) (by decide +kernel)
set_option maxRecDepth 20000 in
theorem gX2_same_X0_secondsTo_n146 : GoodIn wsX2_same (wsX0_secondsTo) := ggX2_same_X0_secondsTo
theorem dX2_same_0 : decode cX2_same 0 = .ok (.aload_n 0, 1) := by decide +kernel
theorem dX2_same_1 : decode cX2_same 1 = .ok (.iload_n 1, 1) := by decide +kernel
theorem dX2_same_2 : decode cX2_same 2 = .ok (.iload_n 2, 1) := by decide +kernel
theorem dX2_same_3 : decode cX2_same 3 = .ok (.iload_n 3, 1) := by decide +kernel
theorem dX2_same_4 : decode cX2_same 4 = .ok (.iload 4, 2) := by decide +kernel
theorem dX2_same_6 : decode cX2_same 6 = .ok (.invokevirtual 127, 3) := by decide +kernel
theorem dX2_same_9 : decode cX2_same 9 = .ok (.aload_n 0, 1) := by decide +kernel
theorem dX2_same_10 : decode cX2_same 10 = .ok (.getfield 19, 3) := by decide +kernel
theorem dX2_same_13 : decode cX2_same 13 = .ok (.aload_n 0, 1) := by decide +kernel
theorem dX2_same_14 : decode cX2_same 14 = .ok (.getfield 12, 3) := by decide +kernel
theorem dX2_same_17 : decode cX2_same 17 = .ok (.aload_n 0, 1) := by decide +kernel
theorem dX2_same_18 : decode cX2_same 18 = .ok (.getfield 23, 3) := by decide +kernel
theorem dX2_same_21 : decode cX2_same 21 = .ok (.iload_n 1, 1) := by decide +kernel
theorem dX2_same_22 : decode cX2_same 22 = .ok (.iaload, 1) := by decide +kernel
theorem dX2_same_23 : decode cX2_same 23 = .ok (.iload 4, 2) := by decide +kernel
theorem dX2_same_25 : decode cX2_same 25 = .ok (.invokevirtual 131, 3) := by decide +kernel
theorem dX2_same_28 : decode cX2_same 28 = .ok (.aload_n 0, 1) := by decide +kernel
theorem dX2_same_29 : decode cX2_same 29 = .ok (.getfield 19, 3) := by decide +kernel
theorem dX2_same_32 : decode cX2_same 32 = .ok (.aload_n 0, 1) := by decide +kernel
theorem dX2_same_33 : decode cX2_same 33 = .ok (.getfield 12, 3) := by decide +kernel
theorem dX2_same_36 : decode cX2_same 36 = .ok (.iload_n 2, 1) := by decide +kernel
theorem dX2_same_37 : decode cX2_same 37 = .ok (.invokevirtual 135, 3) := by decide +kernel
theorem dX2_same_40 : decode cX2_same 40 = .ok (.aload_n 0, 1) := by decide +kernel
theorem dX2_same_41 : decode cX2_same 41 = .ok (.getfield 19, 3) := by decide +kernel
theorem dX2_same_44 : decode cX2_same 44 = .ok (.aload_n 0, 1) := by decide +kernel
theorem dX2_same_45 : decode cX2_same 45 = .ok (.getfield 12, 3) := by decide +kernel
theorem dX2_same_48 : decode cX2_same 48 = .ok (.iload_n 2, 1) := by decide +kernel
theorem dX2_same_49 : decode cX2_same 49 = .ok (.iload_n 3, 1) := by decide +kernel
theorem dX2_same_50 : decode cX2_same 50 = .ok (.invokevirtual 146, 3) := by decide +kernel
theorem dX2_same_53 : decode cX2_same 53 = .ok (.istore 5, 2) := by decide +kernel
theorem dX2_same_55 : decode cX2_same 55 = .ok (.aload_n 0, 1) := by decide +kernel
theorem dX2_same_56 : decode cX2_same 56 = .ok (.getfield 19, 3) := by decide +kernel
theorem dX2_same_59 : decode cX2_same 59 = .ok (.aload_n 0, 1) := by decide +kernel
theorem dX2_same_60 : decode cX2_same 60 = .ok (.getfield 12, 3) := by decide +kernel
theorem dX2_same_63 : decode cX2_same 63 = .ok (.iload_n 3, 1) := by decide +kernel
theorem dX2_same_64 : decode cX2_same 64 = .ok (.invokevirtual 135, 3) := by decide +kernel
theorem dX2_same_67 : decode cX2_same 67 = .ok (.aload_n 0, 1) := by decide +kernel
theorem dX2_same_68 : decode cX2_same 68 = .ok (.getfield 19, 3) := by decide +kernel
theorem dX2_same_71 : decode cX2_same 71 = .ok (.aload_n 0, 1) := by decide +kernel
theorem dX2_same_72 : decode cX2_same 72 = .ok (.getfield 12, 3) := by decide +kernel
theorem dX2_same_75 : decode cX2_same 75 = .ok (.iload_n 3, 1) := by decide +kernel
theorem dX2_same_76 : decode cX2_same 76 = .ok (.iload_n 2, 1) := by decide +kernel
theorem dX2_same_77 : decode cX2_same 77 = .ok (.invokevirtual 146, 3) := by decide +kernel
theorem dX2_same_80 : decode cX2_same 80 = .ok (.istore 6, 2) := by decide +kernel
theorem dX2_same_82 : decode cX2_same 82 = .ok (.iload 5, 2) := by decide +kernel
theorem dX2_same_84 : decode cX2_same 84 = .ok (.iload 6, 2) := by decide +kernel
theorem dX2_same_86 : decode cX2_same 86 = .ok (.if_icmp .ne 7, 3) := by decide +kernel
theorem dX2_same_89 : decode cX2_same 89 = .ok (.iconst 1, 1) := by decide +kernel
theorem dX2_same_90 : decode cX2_same 90 = .ok (.goto 4, 3) := by decide +kernel
theorem dX2_same_93 : decode cX2_same 93 = .ok (.iconst 0, 1) := by decide +kernel
theorem dX2_same_94 : decode cX2_same 94 = .ok (.ireturn, 1) := by decide +kernel
set_option maxRecDepth 20000 in
theorem ggX2_charger_X2_needPiece : GoodIn wsX2_charger wsX2_needPiece := goodIn_ca (goodIn_r _ [12, 13, 14, 15, 20, 21, 22, 23, 24, 25, 26, 27, 28, 29, 30, 31, 32, 33, 34, 35, 36, 37, 38, 39, 40, 41, 42, 43, 44, 45] (by decide +kernel) (by decide +kernel)) (goodIn_sub (fun _ h => List.mem_cons_of_mem _ (List.mem_append_right _ h)) (by decide +kernel))
set_option maxRecDepth 20000 in
theorem gX2_charger_X2_needPiece : GoodIn wsX2_charger (wsV RX2 66 RX2 yX2_needPiece wsX2_needPiece) := goodIn_app (goodIn_of _ (by decide +kernel)) ggX2_charger_X2_needPiece
set_option maxRecDepth 20000 in
theorem ggX2_charger_X2_hasCharger : GoodIn wsX2_charger wsX2_hasCharger := goodIn_r _ [19, 5, 7, 20, 21, 22, 23, 24, 25, 26, 27, 28, 29, 30, 31] (by decide +kernel) (by decide +kernel)
set_option maxRecDepth 20000 in
theorem gX2_charger_X2_hasCharger : GoodIn wsX2_charger (wsV RX2 150 RX2 yX2_hasCharger wsX2_hasCharger) := goodIn_app (goodIn_of _ (by decide +kernel)) ggX2_charger_X2_hasCharger
theorem dX2_charger_0 : decode cX2_charger 0 = .ok (.aload_n 0, 1) := by decide +kernel
theorem dX2_charger_1 : decode cX2_charger 1 = .ok (.iload_n 1, 1) := by decide +kernel
theorem dX2_charger_2 : decode cX2_charger 2 = .ok (.invokevirtual 66, 3) := by decide +kernel
theorem dX2_charger_5 : decode cX2_charger 5 = .ok (.aload_n 0, 1) := by decide +kernel
theorem dX2_charger_6 : decode cX2_charger 6 = .ok (.iload_n 1, 1) := by decide +kernel
theorem dX2_charger_7 : decode cX2_charger 7 = .ok (.invokevirtual 150, 3) := by decide +kernel
theorem dX2_charger_10 : decode cX2_charger 10 = .ok (.ifCond .eq 13, 3) := by decide +kernel
theorem dX2_charger_13 : decode cX2_charger 13 = .ok (.new 153, 3) := by decide +kernel
theorem dX2_charger_16 : decode cX2_charger 16 = .ok (.dup, 1) := by decide +kernel
theorem dX2_charger_17 : decode cX2_charger 17 = .ok (.ldc 155, 2) := by decide +kernel
theorem dX2_charger_19 : decode cX2_charger 19 = .ok (.invokespecial 157, 3) := by decide +kernel
theorem dX2_charger_22 : decode cX2_charger 22 = .ok (.athrow, 1) := by decide +kernel
theorem dX2_charger_23 : decode cX2_charger 23 = .ok (.aload_n 0, 1) := by decide +kernel
theorem dX2_charger_24 : decode cX2_charger 24 = .ok (.getfield 158, 3) := by decide +kernel
theorem dX2_charger_27 : decode cX2_charger 27 = .ok (.bipush 8, 2) := by decide +kernel
theorem dX2_charger_29 : decode cX2_charger 29 = .ok (.if_icmp .lt 13, 3) := by decide +kernel
theorem dX2_charger_32 : decode cX2_charger 32 = .ok (.new 54, 3) := by decide +kernel
theorem dX2_charger_35 : decode cX2_charger 35 = .ok (.dup, 1) := by decide +kernel
theorem dX2_charger_36 : decode cX2_charger 36 = .ok (.ldc 161, 2) := by decide +kernel
theorem dX2_charger_38 : decode cX2_charger 38 = .ok (.invokespecial 58, 3) := by decide +kernel
theorem dX2_charger_41 : decode cX2_charger 41 = .ok (.athrow, 1) := by decide +kernel
theorem dX2_charger_42 : decode cX2_charger 42 = .ok (.aload_n 0, 1) := by decide +kernel
theorem dX2_charger_43 : decode cX2_charger 43 = .ok (.dup, 1) := by decide +kernel
theorem dX2_charger_44 : decode cX2_charger 44 = .ok (.getfield 59, 3) := by decide +kernel
theorem dX2_charger_47 : decode cX2_charger 47 = .ok (.iconst 1, 1) := by decide +kernel
theorem dX2_charger_48 : decode cX2_charger 48 = .ok (.iadd, 1) := by decide +kernel
theorem dX2_charger_49 : decode cX2_charger 49 = .ok (.putfield 59, 3) := by decide +kernel
theorem dX2_charger_52 : decode cX2_charger 52 = .ok (.aload_n 0, 1) := by decide +kernel
theorem dX2_charger_53 : decode cX2_charger 53 = .ok (.getfield 27, 3) := by decide +kernel
theorem dX2_charger_56 : decode cX2_charger 56 = .ok (.aload_n 0, 1) := by decide +kernel
theorem dX2_charger_57 : decode cX2_charger 57 = .ok (.getfield 158, 3) := by decide +kernel
theorem dX2_charger_60 : decode cX2_charger 60 = .ok (.iload_n 1, 1) := by decide +kernel
theorem dX2_charger_61 : decode cX2_charger 61 = .ok (.iastore, 1) := by decide +kernel
theorem dX2_charger_62 : decode cX2_charger 62 = .ok (.aload_n 0, 1) := by decide +kernel
theorem dX2_charger_63 : decode cX2_charger 63 = .ok (.dup, 1) := by decide +kernel
theorem dX2_charger_64 : decode cX2_charger 64 = .ok (.getfield 158, 3) := by decide +kernel
theorem dX2_charger_67 : decode cX2_charger 67 = .ok (.iconst 1, 1) := by decide +kernel
theorem dX2_charger_68 : decode cX2_charger 68 = .ok (.iadd, 1) := by decide +kernel
theorem dX2_charger_69 : decode cX2_charger 69 = .ok (.putfield 158, 3) := by decide +kernel
theorem dX2_charger_72 : decode cX2_charger 72 = .ok (.aload_n 0, 1) := by decide +kernel
theorem dX2_charger_73 : decode cX2_charger 73 = .ok (.getfield 158, 3) := by decide +kernel
theorem dX2_charger_76 : decode cX2_charger 76 = .ok (.ireturn, 1) := by decide +kernel
set_option maxRecDepth 20000 in
theorem ggX2_nearest_X2_needJourney : GoodIn wsX2_nearest wsX2_needJourney := goodIn_ca (goodIn_r _ [9, 10, 11, 12, 13, 14, 15, 8, 16, 2, 17, 18, 19, 70, 71, 72, 73, 74, 75, 76, 77, 78, 79, 80, 81, 82, 83, 84, 85, 86, 87, 88, 89, 90, 91, 92, 93, 94, 95] (by decide +kernel) (by decide +kernel)) (goodIn_sub (fun _ h => List.mem_cons_of_mem _ (List.mem_append_right _ h)) (by decide +kernel))
set_option maxRecDepth 20000 in
theorem gX2_nearest_X2_needJourney : GoodIn wsX2_nearest (wsV RX2 127 RX2 yX2_needJourney wsX2_needJourney) := goodIn_app (goodIn_of _ (by decide +kernel)) ggX2_nearest_X2_needJourney
set_option maxRecDepth 20000 in
theorem ggX2_nearest_X0_begin : GoodIn wsX2_nearest wsX0_begin := goodIn_r _ [23, 24, 25, 26, 27, 28, 29, 30, 31, 32, 82, 83, 84, 85, 86, 87, 88, 89, 90, 91, 92, 93, 94, 95, 96, 97, 98] (by decide +kernel) (by decide +kernel)
set_option maxRecDepth 20000 in
theorem gX2_nearest_X0_begin_n131 : GoodIn wsX2_nearest (wsX0_begin) := ggX2_nearest_X0_begin
set_option maxRecDepth 20000 in
theorem ggX2_nearest_X0_spread : GoodIn wsX2_nearest wsX0_spread := goodIn_r _ [35, 36, 37, 38, 39, 40, 41, 42, 26, 43, 44, 32, 45, 46, 47, 21, 48, 49, 50, 51, 52, 53, 54, 55, 56, 24, 96, 97, 98, 82, 83, 84, 85, 86, 87, 88, 89, 90, 91, 92, 93, 94, 95] (by decide +kernel) (by decide +kernel)
set_option maxRecDepth 20000 in
theorem gX2_nearest_X0_spread_n135 : GoodIn wsX2_nearest (wsX0_spread) := ggX2_nearest_X0_spread
set_option maxRecDepth 20000 in
theorem ggX2_nearest_X2_hasCharger : GoodIn wsX2_nearest wsX2_hasCharger := goodIn_r _ [60, 61, 62, 70, 71, 72, 73, 74, 75, 76, 77, 78, 79, 80, 81] (by decide +kernel) (by decide +kernel)
set_option maxRecDepth 20000 in
theorem gX2_nearest_X2_hasCharger : GoodIn wsX2_nearest (wsV RX2 150 RX2 yX2_hasCharger wsX2_hasCharger) := goodIn_app (goodIn_of _ (by decide +kernel)) ggX2_nearest_X2_hasCharger
set_option maxRecDepth 20000 in
theorem ggX2_nearest_X0_secondsTo : GoodIn wsX2_nearest wsX0_secondsTo := goodIn_r _ [65, 66, 67, 68, 21, 69, 37, 53, 54, 55, 56, 36, 24, 82, 83, 84, 85, 86, 87, 88, 89, 90, 91, 92, 93, 94, 95, 96, 97, 98] (by decide +kernel) (by decide +kernel)
set_option maxRecDepth 20000 in
theorem gX2_nearest_X0_secondsTo_n146 : GoodIn wsX2_nearest (wsX0_secondsTo) := ggX2_nearest_X0_secondsTo
theorem dX2_nearest_0 : decode cX2_nearest 0 = .ok (.aload_n 0, 1) := by decide +kernel
theorem dX2_nearest_1 : decode cX2_nearest 1 = .ok (.iload_n 1, 1) := by decide +kernel
theorem dX2_nearest_2 : decode cX2_nearest 2 = .ok (.iload_n 2, 1) := by decide +kernel
theorem dX2_nearest_3 : decode cX2_nearest 3 = .ok (.iload_n 2, 1) := by decide +kernel
theorem dX2_nearest_4 : decode cX2_nearest 4 = .ok (.iload_n 3, 1) := by decide +kernel
theorem dX2_nearest_5 : decode cX2_nearest 5 = .ok (.invokevirtual 127, 3) := by decide +kernel
theorem dX2_nearest_8 : decode cX2_nearest 8 = .ok (.aload_n 0, 1) := by decide +kernel
theorem dX2_nearest_9 : decode cX2_nearest 9 = .ok (.getfield 19, 3) := by decide +kernel
theorem dX2_nearest_12 : decode cX2_nearest 12 = .ok (.aload_n 0, 1) := by decide +kernel
theorem dX2_nearest_13 : decode cX2_nearest 13 = .ok (.getfield 12, 3) := by decide +kernel
theorem dX2_nearest_16 : decode cX2_nearest 16 = .ok (.aload_n 0, 1) := by decide +kernel
theorem dX2_nearest_17 : decode cX2_nearest 17 = .ok (.getfield 23, 3) := by decide +kernel
theorem dX2_nearest_20 : decode cX2_nearest 20 = .ok (.iload_n 1, 1) := by decide +kernel
theorem dX2_nearest_21 : decode cX2_nearest 21 = .ok (.iaload, 1) := by decide +kernel
theorem dX2_nearest_22 : decode cX2_nearest 22 = .ok (.iload_n 3, 1) := by decide +kernel
theorem dX2_nearest_23 : decode cX2_nearest 23 = .ok (.invokevirtual 131, 3) := by decide +kernel
theorem dX2_nearest_26 : decode cX2_nearest 26 = .ok (.aload_n 0, 1) := by decide +kernel
theorem dX2_nearest_27 : decode cX2_nearest 27 = .ok (.getfield 19, 3) := by decide +kernel
theorem dX2_nearest_30 : decode cX2_nearest 30 = .ok (.aload_n 0, 1) := by decide +kernel
theorem dX2_nearest_31 : decode cX2_nearest 31 = .ok (.getfield 12, 3) := by decide +kernel
theorem dX2_nearest_34 : decode cX2_nearest 34 = .ok (.iload_n 2, 1) := by decide +kernel
theorem dX2_nearest_35 : decode cX2_nearest 35 = .ok (.invokevirtual 135, 3) := by decide +kernel
theorem dX2_nearest_38 : decode cX2_nearest 38 = .ok (.iconst (-1), 1) := by decide +kernel
theorem dX2_nearest_39 : decode cX2_nearest 39 = .ok (.istore 4, 2) := by decide +kernel
theorem dX2_nearest_41 : decode cX2_nearest 41 = .ok (.ldc 163, 2) := by decide +kernel
end
section
theorem dX2_nearest_43 : decode cX2_nearest 43 = .ok (.istore 5, 2) := by decide +kernel
theorem dX2_nearest_45 : decode cX2_nearest 45 = .ok (.iconst 0, 1) := by decide +kernel
theorem dX2_nearest_46 : decode cX2_nearest 46 = .ok (.istore 6, 2) := by decide +kernel
theorem dX2_nearest_48 : decode cX2_nearest 48 = .ok (.iload 6, 2) := by decide +kernel
theorem dX2_nearest_50 : decode cX2_nearest 50 = .ok (.aload_n 0, 1) := by decide +kernel
theorem dX2_nearest_51 : decode cX2_nearest 51 = .ok (.getfield 12, 3) := by decide +kernel
theorem dX2_nearest_54 : decode cX2_nearest 54 = .ok (.getfield 50, 3) := by decide +kernel
theorem dX2_nearest_57 : decode cX2_nearest 57 = .ok (.if_icmp .ge 55, 3) := by decide +kernel
theorem dX2_nearest_60 : decode cX2_nearest 60 = .ok (.aload_n 0, 1) := by decide +kernel
theorem dX2_nearest_61 : decode cX2_nearest 61 = .ok (.iload 6, 2) := by decide +kernel
theorem dX2_nearest_63 : decode cX2_nearest 63 = .ok (.invokevirtual 150, 3) := by decide +kernel
theorem dX2_nearest_66 : decode cX2_nearest 66 = .ok (.ifCond .eq 40, 3) := by decide +kernel
theorem dX2_nearest_69 : decode cX2_nearest 69 = .ok (.aload_n 0, 1) := by decide +kernel
theorem dX2_nearest_70 : decode cX2_nearest 70 = .ok (.getfield 19, 3) := by decide +kernel
theorem dX2_nearest_73 : decode cX2_nearest 73 = .ok (.aload_n 0, 1) := by decide +kernel
theorem dX2_nearest_74 : decode cX2_nearest 74 = .ok (.getfield 12, 3) := by decide +kernel
theorem dX2_nearest_77 : decode cX2_nearest 77 = .ok (.iload_n 2, 1) := by decide +kernel
theorem dX2_nearest_78 : decode cX2_nearest 78 = .ok (.iload 6, 2) := by decide +kernel
theorem dX2_nearest_80 : decode cX2_nearest 80 = .ok (.invokevirtual 146, 3) := by decide +kernel
theorem dX2_nearest_83 : decode cX2_nearest 83 = .ok (.istore 7, 2) := by decide +kernel
theorem dX2_nearest_85 : decode cX2_nearest 85 = .ok (.iload 7, 2) := by decide +kernel
theorem dX2_nearest_87 : decode cX2_nearest 87 = .ok (.iconst (-1), 1) := by decide +kernel
theorem dX2_nearest_88 : decode cX2_nearest 88 = .ok (.if_icmp .eq 18, 3) := by decide +kernel
theorem dX2_nearest_91 : decode cX2_nearest 91 = .ok (.iload 7, 2) := by decide +kernel
theorem dX2_nearest_93 : decode cX2_nearest 93 = .ok (.iload 5, 2) := by decide +kernel
theorem dX2_nearest_95 : decode cX2_nearest 95 = .ok (.if_icmp .ge 11, 3) := by decide +kernel
theorem dX2_nearest_98 : decode cX2_nearest 98 = .ok (.iload 6, 2) := by decide +kernel
theorem dX2_nearest_100 : decode cX2_nearest 100 = .ok (.istore 4, 2) := by decide +kernel
theorem dX2_nearest_102 : decode cX2_nearest 102 = .ok (.iload 7, 2) := by decide +kernel
theorem dX2_nearest_104 : decode cX2_nearest 104 = .ok (.istore 5, 2) := by decide +kernel
theorem dX2_nearest_106 : decode cX2_nearest 106 = .ok (.iinc 6 1, 3) := by decide +kernel
theorem dX2_nearest_109 : decode cX2_nearest 109 = .ok (.goto (-61), 3) := by decide +kernel
theorem dX2_nearest_112 : decode cX2_nearest 112 = .ok (.iload 4, 2) := by decide +kernel
theorem dX2_nearest_114 : decode cX2_nearest 114 = .ok (.ireturn, 1) := by decide +kernel
set_option maxRecDepth 20000 in
theorem ggX2_table_X2_workRow : GoodIn wsX2_table wsX2_workRow := goodIn_r _ [15, 16, 17, 18, 19, 4, 10, 8, 9, 20, 21, 22, 23, 24, 25, 26, 27, 28, 29, 30, 31, 32, 33, 34, 35, 36, 37, 38, 39, 40, 41, 42, 43, 44, 45, 46, 47, 48, 49, 50, 51, 52, 53, 54, 55, 56, 57, 58, 59, 60, 61, 62, 63, 64, 65, 66, 67, 68, 69, 70, 71, 72, 73, 74, 75, 76, 83, 84, 85, 86, 87, 88, 89, 90, 91, 92, 93, 94, 95, 96, 97, 98, 99] (by decide +kernel) (by decide +kernel)
set_option maxRecDepth 20000 in
theorem gX2_table_X2_workRow : GoodIn wsX2_table (wsV RX2 171 RX2 yX2_workRow wsX2_workRow) := goodIn_app (goodIn_of _ (by decide +kernel)) ggX2_table_X2_workRow
theorem dX2_table_0 : decode cX2_table 0 = .ok (.aload_n 0, 1) := by decide +kernel
theorem dX2_table_1 : decode cX2_table 1 = .ok (.getfield 118, 3) := by decide +kernel
theorem dX2_table_4 : decode cX2_table 4 = .ok (.ifCond .ne 13, 3) := by decide +kernel
theorem dX2_table_7 : decode cX2_table 7 = .ok (.new 153, 3) := by decide +kernel
theorem dX2_table_10 : decode cX2_table 10 = .ok (.dup, 1) := by decide +kernel
theorem dX2_table_11 : decode cX2_table 11 = .ok (.ldc 164, 2) := by decide +kernel
theorem dX2_table_13 : decode cX2_table 13 = .ok (.invokespecial 157, 3) := by decide +kernel
theorem dX2_table_16 : decode cX2_table 16 = .ok (.athrow, 1) := by decide +kernel
theorem dX2_table_17 : decode cX2_table 17 = .ok (.iload_n 1, 1) := by decide +kernel
theorem dX2_table_18 : decode cX2_table 18 = .ok (.ifCond .lt 23, 3) := by decide +kernel
theorem dX2_table_21 : decode cX2_table 21 = .ok (.iload_n 1, 1) := by decide +kernel
theorem dX2_table_22 : decode cX2_table 22 = .ok (.aload_n 0, 1) := by decide +kernel
theorem dX2_table_23 : decode cX2_table 23 = .ok (.getfield 158, 3) := by decide +kernel
theorem dX2_table_26 : decode cX2_table 26 = .ok (.if_icmp .ge 15, 3) := by decide +kernel
theorem dX2_table_29 : decode cX2_table 29 = .ok (.iload_n 2, 1) := by decide +kernel
theorem dX2_table_30 : decode cX2_table 30 = .ok (.ifCond .lt 11, 3) := by decide +kernel
theorem dX2_table_33 : decode cX2_table 33 = .ok (.iload_n 2, 1) := by decide +kernel
theorem dX2_table_34 : decode cX2_table 34 = .ok (.aload_n 0, 1) := by decide +kernel
theorem dX2_table_35 : decode cX2_table 35 = .ok (.getfield 158, 3) := by decide +kernel
theorem dX2_table_38 : decode cX2_table 38 = .ok (.if_icmp .lt 13, 3) := by decide +kernel
theorem dX2_table_41 : decode cX2_table 41 = .ok (.new 166, 3) := by decide +kernel
theorem dX2_table_44 : decode cX2_table 44 = .ok (.dup, 1) := by decide +kernel
theorem dX2_table_45 : decode cX2_table 45 = .ok (.ldc 168, 2) := by decide +kernel
theorem dX2_table_47 : decode cX2_table 47 = .ok (.invokespecial 170, 3) := by decide +kernel
theorem dX2_table_50 : decode cX2_table 50 = .ok (.athrow, 1) := by decide +kernel
theorem dX2_table_51 : decode cX2_table 51 = .ok (.aload_n 0, 1) := by decide +kernel
theorem dX2_table_52 : decode cX2_table 52 = .ok (.getfield 38, 3) := by decide +kernel
theorem dX2_table_55 : decode cX2_table 55 = .ok (.iload_n 1, 1) := by decide +kernel
theorem dX2_table_56 : decode cX2_table 56 = .ok (.iaload, 1) := by decide +kernel
theorem dX2_table_57 : decode cX2_table 57 = .ok (.aload_n 0, 1) := by decide +kernel
theorem dX2_table_58 : decode cX2_table 58 = .ok (.getfield 59, 3) := by decide +kernel
theorem dX2_table_61 : decode cX2_table 61 = .ok (.if_icmp .eq 8, 3) := by decide +kernel
theorem dX2_table_64 : decode cX2_table 64 = .ok (.aload_n 0, 1) := by decide +kernel
theorem dX2_table_65 : decode cX2_table 65 = .ok (.iload_n 1, 1) := by decide +kernel
theorem dX2_table_66 : decode cX2_table 66 = .ok (.invokevirtual 171, 3) := by decide +kernel
theorem dX2_table_69 : decode cX2_table 69 = .ok (.aload_n 0, 1) := by decide +kernel
theorem dX2_table_70 : decode cX2_table 70 = .ok (.getfield 35, 3) := by decide +kernel
theorem dX2_table_73 : decode cX2_table 73 = .ok (.iload_n 1, 1) := by decide +kernel
theorem dX2_table_74 : decode cX2_table 74 = .ok (.aaload, 1) := by decide +kernel
theorem dX2_table_75 : decode cX2_table 75 = .ok (.iload_n 2, 1) := by decide +kernel
theorem dX2_table_76 : decode cX2_table 76 = .ok (.iaload, 1) := by decide +kernel
theorem dX2_table_77 : decode cX2_table 77 = .ok (.ireturn, 1) := by decide +kernel
theorem dX2_rows_0 : decode cX2_rows 0 = .ok (.aload_n 0, 1) := by decide +kernel
theorem dX2_rows_1 : decode cX2_rows 1 = .ok (.getfield 174, 3) := by decide +kernel
theorem dX2_rows_4 : decode cX2_rows 4 = .ok (.ireturn, 1) := by decide +kernel
set_option maxRecDepth 20000 in
theorem ggX2_plain_X2_needJourney : GoodIn wsX2_plain wsX2_needJourney := goodIn_ca (goodIn_r _ [10, 1, 2, 11, 12, 13, 14, 9, 15, 4, 16, 17, 18, 43, 44, 45, 46, 47, 48, 49, 50, 51, 52, 53, 54, 55, 56, 57, 58, 59, 60, 61, 62, 63, 64, 65, 66, 67, 68] (by decide +kernel) (by decide +kernel)) (goodIn_sub (fun _ h => List.mem_cons_of_mem _ (List.mem_append_right _ h)) (by decide +kernel))
set_option maxRecDepth 20000 in
theorem gX2_plain_X2_needJourney : GoodIn wsX2_plain (wsV RX2 127 RX2 yX2_needJourney wsX2_needJourney) := goodIn_app (goodIn_of _ (by decide +kernel)) ggX2_plain_X2_needJourney
set_option maxRecDepth 20000 in
theorem ggX2_plain_X0_begin : GoodIn wsX2_plain wsX0_begin := goodIn_r _ [22, 23, 24, 25, 26, 27, 28, 29, 30, 31, 55, 56, 57, 58, 59, 60, 61, 62, 63, 64, 65, 66, 67, 68, 69, 70, 71] (by decide +kernel) (by decide +kernel)
set_option maxRecDepth 20000 in
theorem gX2_plain_X0_begin_n131 : GoodIn wsX2_plain (wsX0_begin) := ggX2_plain_X0_begin
set_option maxRecDepth 20000 in
theorem ggX2_plain_X0_waysBetween : GoodIn wsX2_plain wsX0_waysBetween := goodIn_r _ [34, 35, 36, 25, 37, 38, 31, 39, 40, 41, 20, 42, 23, 55, 56, 57, 58, 59, 60, 61, 62, 63, 64, 65, 66, 67, 68, 69, 70, 71] (by decide +kernel) (by decide +kernel)
set_option maxRecDepth 20000 in
theorem gX2_plain_X0_waysBetween_n179 : GoodIn wsX2_plain (wsX0_waysBetween) := ggX2_plain_X0_waysBetween
theorem dX2_plain_0 : decode cX2_plain 0 = .ok (.aload_n 0, 1) := by decide +kernel
theorem dX2_plain_1 : decode cX2_plain 1 = .ok (.iload_n 1, 1) := by decide +kernel
theorem dX2_plain_2 : decode cX2_plain 2 = .ok (.iload_n 2, 1) := by decide +kernel
theorem dX2_plain_3 : decode cX2_plain 3 = .ok (.iload_n 3, 1) := by decide +kernel
theorem dX2_plain_4 : decode cX2_plain 4 = .ok (.iload 4, 2) := by decide +kernel
theorem dX2_plain_6 : decode cX2_plain 6 = .ok (.invokevirtual 127, 3) := by decide +kernel
theorem dX2_plain_9 : decode cX2_plain 9 = .ok (.iload 5, 2) := by decide +kernel
theorem dX2_plain_11 : decode cX2_plain 11 = .ok (.ifCond .lt 9, 3) := by decide +kernel
theorem dX2_plain_14 : decode cX2_plain 14 = .ok (.iload 5, 2) := by decide +kernel
theorem dX2_plain_16 : decode cX2_plain 16 = .ok (.iconst 5, 1) := by decide +kernel
theorem dX2_plain_17 : decode cX2_plain 17 = .ok (.if_icmp .le 13, 3) := by decide +kernel
theorem dX2_plain_20 : decode cX2_plain 20 = .ok (.new 41, 3) := by decide +kernel
theorem dX2_plain_23 : decode cX2_plain 23 = .ok (.dup, 1) := by decide +kernel
theorem dX2_plain_24 : decode cX2_plain 24 = .ok (.ldc 177, 2) := by decide +kernel
theorem dX2_plain_26 : decode cX2_plain 26 = .ok (.invokespecial 45, 3) := by decide +kernel
theorem dX2_plain_29 : decode cX2_plain 29 = .ok (.athrow, 1) := by decide +kernel
theorem dX2_plain_30 : decode cX2_plain 30 = .ok (.iload_n 2, 1) := by decide +kernel
theorem dX2_plain_31 : decode cX2_plain 31 = .ok (.iload_n 3, 1) := by decide +kernel
theorem dX2_plain_32 : decode cX2_plain 32 = .ok (.if_icmp .ne 5, 3) := by decide +kernel
theorem dX2_plain_35 : decode cX2_plain 35 = .ok (.iconst 0, 1) := by decide +kernel
theorem dX2_plain_36 : decode cX2_plain 36 = .ok (.ireturn, 1) := by decide +kernel
theorem dX2_plain_37 : decode cX2_plain 37 = .ok (.aload_n 0, 1) := by decide +kernel
theorem dX2_plain_38 : decode cX2_plain 38 = .ok (.getfield 19, 3) := by decide +kernel
theorem dX2_plain_41 : decode cX2_plain 41 = .ok (.aload_n 0, 1) := by decide +kernel
theorem dX2_plain_42 : decode cX2_plain 42 = .ok (.getfield 12, 3) := by decide +kernel
theorem dX2_plain_45 : decode cX2_plain 45 = .ok (.aload_n 0, 1) := by decide +kernel
theorem dX2_plain_46 : decode cX2_plain 46 = .ok (.getfield 23, 3) := by decide +kernel
theorem dX2_plain_49 : decode cX2_plain 49 = .ok (.iload_n 1, 1) := by decide +kernel
theorem dX2_plain_50 : decode cX2_plain 50 = .ok (.iaload, 1) := by decide +kernel
theorem dX2_plain_51 : decode cX2_plain 51 = .ok (.iload 4, 2) := by decide +kernel
theorem dX2_plain_53 : decode cX2_plain 53 = .ok (.invokevirtual 131, 3) := by decide +kernel
theorem dX2_plain_56 : decode cX2_plain 56 = .ok (.aload_n 0, 1) := by decide +kernel
theorem dX2_plain_57 : decode cX2_plain 57 = .ok (.getfield 19, 3) := by decide +kernel
theorem dX2_plain_60 : decode cX2_plain 60 = .ok (.aload_n 0, 1) := by decide +kernel
theorem dX2_plain_61 : decode cX2_plain 61 = .ok (.getfield 12, 3) := by decide +kernel
theorem dX2_plain_64 : decode cX2_plain 64 = .ok (.iload_n 2, 1) := by decide +kernel
theorem dX2_plain_65 : decode cX2_plain 65 = .ok (.iload_n 3, 1) := by decide +kernel
theorem dX2_plain_66 : decode cX2_plain 66 = .ok (.iload 5, 2) := by decide +kernel
theorem dX2_plain_68 : decode cX2_plain 68 = .ok (.invokevirtual 179, 3) := by decide +kernel
theorem dX2_plain_71 : decode cX2_plain 71 = .ok (.ireturn, 1) := by decide +kernel
set_option maxRecDepth 20000 in
theorem ggX2_count_X1_barredAmong : GoodIn wsX2_count wsX1_barredAmong := goodIn_r _ [7, 8, 21, 22, 23, 24, 25, 26, 27, 28, 29, 30, 31, 32, 33, 34] (by decide +kernel) (by decide +kernel)
set_option maxRecDepth 20000 in
theorem gX2_count_X1_barredAmong_n95 : GoodIn wsX2_count (wsX1_barredAmong) := ggX2_count_X1_barredAmong
theorem dX2_count_0 : decode cX2_count 0 = .ok (.iload_n 1, 1) := by decide +kernel
theorem dX2_count_1 : decode cX2_count 1 = .ok (.tableswitch 79 0 4 #[35, 43, 53, 58, 63], 35) := by decide +kernel
theorem dX2_count_36 : decode cX2_count 36 = .ok (.aload_n 0, 1) := by decide +kernel
theorem dX2_count_37 : decode cX2_count 37 = .ok (.getfield 12, 3) := by decide +kernel
theorem dX2_count_40 : decode cX2_count 40 = .ok (.getfield 50, 3) := by decide +kernel
theorem dX2_count_43 : decode cX2_count 43 = .ok (.ireturn, 1) := by decide +kernel
theorem dX2_count_44 : decode cX2_count 44 = .ok (.aload_n 0, 1) := by decide +kernel
theorem dX2_count_45 : decode cX2_count 45 = .ok (.getfield 12, 3) := by decide +kernel
theorem dX2_count_48 : decode cX2_count 48 = .ok (.getfield 86, 3) := by decide +kernel
theorem dX2_count_51 : decode cX2_count 51 = .ok (.iconst 2, 1) := by decide +kernel
theorem dX2_count_52 : decode cX2_count 52 = .ok (.idiv, 1) := by decide +kernel
theorem dX2_count_53 : decode cX2_count 53 = .ok (.ireturn, 1) := by decide +kernel
theorem dX2_count_54 : decode cX2_count 54 = .ok (.aload_n 0, 1) := by decide +kernel
theorem dX2_count_55 : decode cX2_count 55 = .ok (.getfield 118, 3) := by decide +kernel
theorem dX2_count_58 : decode cX2_count 58 = .ok (.ireturn, 1) := by decide +kernel
theorem dX2_count_59 : decode cX2_count 59 = .ok (.aload_n 0, 1) := by decide +kernel
theorem dX2_count_60 : decode cX2_count 60 = .ok (.getfield 158, 3) := by decide +kernel
theorem dX2_count_63 : decode cX2_count 63 = .ok (.ireturn, 1) := by decide +kernel
theorem dX2_count_64 : decode cX2_count 64 = .ok (.aload_n 0, 1) := by decide +kernel
theorem dX2_count_65 : decode cX2_count 65 = .ok (.getfield 12, 3) := by decide +kernel
theorem dX2_count_68 : decode cX2_count 68 = .ok (.iconst 0, 1) := by decide +kernel
theorem dX2_count_69 : decode cX2_count 69 = .ok (.aload_n 0, 1) := by decide +kernel
theorem dX2_count_70 : decode cX2_count 70 = .ok (.getfield 12, 3) := by decide +kernel
theorem dX2_count_73 : decode cX2_count 73 = .ok (.getfield 86, 3) := by decide +kernel
theorem dX2_count_76 : decode cX2_count 76 = .ok (.invokevirtual 95, 3) := by decide +kernel
theorem dX2_count_79 : decode cX2_count 79 = .ok (.ireturn, 1) := by decide +kernel
theorem dX2_count_80 : decode cX2_count 80 = .ok (.iconst (-1), 1) := by decide +kernel
theorem dX2_count_81 : decode cX2_count 81 = .ok (.ireturn, 1) := by decide +kernel
set_option maxRecDepth 20000 in
theorem ggX2_joinEnds_X1_addJoin : GoodIn wsX2_joinEnds wsX1_addJoin := goodIn_r _ [10, 11, 12, 13, 14, 8, 15, 16, 17, 18, 19, 20, 33, 34, 35, 36, 37, 38, 39, 40, 41, 42, 43, 44, 45, 46] (by decide +kernel) (by decide +kernel)
set_option maxRecDepth 20000 in
theorem gX2_joinEnds_X1_addJoin_n187 : GoodIn wsX2_joinEnds (wsX1_addJoin) := ggX2_joinEnds_X1_addJoin
theorem dX2_joinEnds_0 : decode cX2_joinEnds 0 = .ok (.iload_n 3, 1) := by decide +kernel
theorem dX2_joinEnds_1 : decode cX2_joinEnds 1 = .ok (.ifCond .lt 9, 3) := by decide +kernel
theorem dX2_joinEnds_4 : decode cX2_joinEnds 4 = .ok (.iload_n 3, 1) := by decide +kernel
theorem dX2_joinEnds_5 : decode cX2_joinEnds 5 = .ok (.bipush 100, 2) := by decide +kernel
theorem dX2_joinEnds_7 : decode cX2_joinEnds 7 = .ok (.if_icmp .le 13, 3) := by decide +kernel
theorem dX2_joinEnds_10 : decode cX2_joinEnds 10 = .ok (.new 41, 3) := by decide +kernel
theorem dX2_joinEnds_13 : decode cX2_joinEnds 13 = .ok (.dup, 1) := by decide +kernel
theorem dX2_joinEnds_14 : decode cX2_joinEnds 14 = .ok (.ldc 183, 2) := by decide +kernel
theorem dX2_joinEnds_16 : decode cX2_joinEnds 16 = .ok (.invokespecial 45, 3) := by decide +kernel
theorem dX2_joinEnds_19 : decode cX2_joinEnds 19 = .ok (.athrow, 1) := by decide +kernel
theorem dX2_joinEnds_20 : decode cX2_joinEnds 20 = .ok (.aload_n 0, 1) := by decide +kernel
theorem dX2_joinEnds_21 : decode cX2_joinEnds 21 = .ok (.getfield 12, 3) := by decide +kernel
theorem dX2_joinEnds_24 : decode cX2_joinEnds 24 = .ok (.getfield 86, 3) := by decide +kernel
theorem dX2_joinEnds_27 : decode cX2_joinEnds 27 = .ok (.bipush 80, 2) := by decide +kernel
theorem dX2_joinEnds_29 : decode cX2_joinEnds 29 = .ok (.if_icmp .lt 13, 3) := by decide +kernel
theorem dX2_joinEnds_32 : decode cX2_joinEnds 32 = .ok (.new 54, 3) := by decide +kernel
theorem dX2_joinEnds_35 : decode cX2_joinEnds 35 = .ok (.dup, 1) := by decide +kernel
theorem dX2_joinEnds_36 : decode cX2_joinEnds 36 = .ok (.ldc 185, 2) := by decide +kernel
theorem dX2_joinEnds_38 : decode cX2_joinEnds 38 = .ok (.invokespecial 58, 3) := by decide +kernel
theorem dX2_joinEnds_41 : decode cX2_joinEnds 41 = .ok (.athrow, 1) := by decide +kernel
theorem dX2_joinEnds_42 : decode cX2_joinEnds 42 = .ok (.aload_n 0, 1) := by decide +kernel
theorem dX2_joinEnds_43 : decode cX2_joinEnds 43 = .ok (.dup, 1) := by decide +kernel
theorem dX2_joinEnds_44 : decode cX2_joinEnds 44 = .ok (.getfield 59, 3) := by decide +kernel
theorem dX2_joinEnds_47 : decode cX2_joinEnds 47 = .ok (.iconst 1, 1) := by decide +kernel
theorem dX2_joinEnds_48 : decode cX2_joinEnds 48 = .ok (.iadd, 1) := by decide +kernel
theorem dX2_joinEnds_49 : decode cX2_joinEnds 49 = .ok (.putfield 59, 3) := by decide +kernel
theorem dX2_joinEnds_52 : decode cX2_joinEnds 52 = .ok (.aload_n 0, 1) := by decide +kernel
theorem dX2_joinEnds_53 : decode cX2_joinEnds 53 = .ok (.getfield 12, 3) := by decide +kernel
theorem dX2_joinEnds_56 : decode cX2_joinEnds 56 = .ok (.iload_n 1, 1) := by decide +kernel
theorem dX2_joinEnds_57 : decode cX2_joinEnds 57 = .ok (.iload_n 2, 1) := by decide +kernel
theorem dX2_joinEnds_58 : decode cX2_joinEnds 58 = .ok (.iload_n 3, 1) := by decide +kernel
theorem dX2_joinEnds_59 : decode cX2_joinEnds 59 = .ok (.invokevirtual 187, 3) := by decide +kernel
theorem dX2_joinEnds_62 : decode cX2_joinEnds 62 = .ok (.ireturn, 1) := by decide +kernel
theorem dX2_hasCharger_0 : decode cX2_hasCharger 0 = .ok (.iconst 0, 1) := by decide +kernel
theorem dX2_hasCharger_1 : decode cX2_hasCharger 1 = .ok (.istore_n 2, 1) := by decide +kernel
theorem dX2_hasCharger_2 : decode cX2_hasCharger 2 = .ok (.iload_n 2, 1) := by decide +kernel
theorem dX2_hasCharger_3 : decode cX2_hasCharger 3 = .ok (.aload_n 0, 1) := by decide +kernel
theorem dX2_hasCharger_4 : decode cX2_hasCharger 4 = .ok (.getfield 158, 3) := by decide +kernel
theorem dX2_hasCharger_7 : decode cX2_hasCharger 7 = .ok (.if_icmp .ge 21, 3) := by decide +kernel
theorem dX2_hasCharger_10 : decode cX2_hasCharger 10 = .ok (.aload_n 0, 1) := by decide +kernel
theorem dX2_hasCharger_11 : decode cX2_hasCharger 11 = .ok (.getfield 27, 3) := by decide +kernel
theorem dX2_hasCharger_14 : decode cX2_hasCharger 14 = .ok (.iload_n 2, 1) := by decide +kernel
theorem dX2_hasCharger_15 : decode cX2_hasCharger 15 = .ok (.iaload, 1) := by decide +kernel
theorem dX2_hasCharger_16 : decode cX2_hasCharger 16 = .ok (.iload_n 1, 1) := by decide +kernel
theorem dX2_hasCharger_17 : decode cX2_hasCharger 17 = .ok (.if_icmp .ne 5, 3) := by decide +kernel
theorem dX2_hasCharger_20 : decode cX2_hasCharger 20 = .ok (.iconst 1, 1) := by decide +kernel
theorem dX2_hasCharger_21 : decode cX2_hasCharger 21 = .ok (.ireturn, 1) := by decide +kernel
theorem dX2_hasCharger_22 : decode cX2_hasCharger 22 = .ok (.iinc 2 1, 3) := by decide +kernel
theorem dX2_hasCharger_25 : decode cX2_hasCharger 25 = .ok (.goto (-23), 3) := by decide +kernel
theorem dX2_hasCharger_28 : decode cX2_hasCharger 28 = .ok (.iconst 0, 1) := by decide +kernel
theorem dX2_hasCharger_29 : decode cX2_hasCharger 29 = .ok (.ireturn, 1) := by decide +kernel
set_option maxRecDepth 20000 in
theorem ggX2_workRow_X0_begin : GoodIn wsX2_workRow wsX0_begin := goodIn_r _ [13, 14, 15, 16, 17, 18, 19, 20, 21, 22, 66, 67, 68, 69, 70, 71, 72, 73, 74, 75, 76, 77, 78, 79, 80, 81, 82] (by decide +kernel) (by decide +kernel)
set_option maxRecDepth 20000 in
theorem gX2_workRow_X0_begin_n131 : GoodIn wsX2_workRow (wsX0_begin) := ggX2_workRow_X0_begin
set_option maxRecDepth 20000 in
theorem ggX2_workRow_X0_spread : GoodIn wsX2_workRow wsX0_spread := goodIn_r _ [25, 26, 27, 28, 29, 30, 31, 32, 16, 33, 34, 22, 35, 36, 37, 11, 38, 39, 40, 41, 42, 43, 44, 45, 46, 14, 80, 81, 82, 66, 67, 68, 69, 70, 71, 72, 73, 74, 75, 76, 77, 78, 79] (by decide +kernel) (by decide +kernel)
set_option maxRecDepth 20000 in
theorem gX2_workRow_X0_spread_n135 : GoodIn wsX2_workRow (wsX0_spread) := ggX2_workRow_X0_spread
set_option maxRecDepth 20000 in
theorem ggX2_workRow_X0_secondsTo : GoodIn wsX2_workRow wsX0_secondsTo := goodIn_r _ [49, 50, 51, 52, 11, 53, 27, 43, 44, 45, 46, 26, 14, 66, 67, 68, 69, 70, 71, 72, 73, 74, 75, 76, 77, 78, 79, 80, 81, 82] (by decide +kernel) (by decide +kernel)
set_option maxRecDepth 20000 in
theorem gX2_workRow_X0_secondsTo_n146 : GoodIn wsX2_workRow (wsX0_secondsTo) := ggX2_workRow_X0_secondsTo
theorem dX2_workRow_0 : decode cX2_workRow 0 = .ok (.aload_n 0, 1) := by decide +kernel
theorem dX2_workRow_1 : decode cX2_workRow 1 = .ok (.getfield 27, 3) := by decide +kernel
theorem dX2_workRow_4 : decode cX2_workRow 4 = .ok (.iload_n 1, 1) := by decide +kernel
theorem dX2_workRow_5 : decode cX2_workRow 5 = .ok (.iaload, 1) := by decide +kernel
theorem dX2_workRow_6 : decode cX2_workRow 6 = .ok (.istore_n 2, 1) := by decide +kernel
theorem dX2_workRow_7 : decode cX2_workRow 7 = .ok (.aload_n 0, 1) := by decide +kernel
theorem dX2_workRow_8 : decode cX2_workRow 8 = .ok (.getfield 19, 3) := by decide +kernel
theorem dX2_workRow_11 : decode cX2_workRow 11 = .ok (.aload_n 0, 1) := by decide +kernel
theorem dX2_workRow_12 : decode cX2_workRow 12 = .ok (.getfield 12, 3) := by decide +kernel
theorem dX2_workRow_15 : decode cX2_workRow 15 = .ok (.aload_n 0, 1) := by decide +kernel
theorem dX2_workRow_16 : decode cX2_workRow 16 = .ok (.getfield 23, 3) := by decide +kernel
theorem dX2_workRow_19 : decode cX2_workRow 19 = .ok (.iconst 0, 1) := by decide +kernel
theorem dX2_workRow_20 : decode cX2_workRow 20 = .ok (.iaload, 1) := by decide +kernel
theorem dX2_workRow_21 : decode cX2_workRow 21 = .ok (.bipush 12, 2) := by decide +kernel
theorem dX2_workRow_23 : decode cX2_workRow 23 = .ok (.invokevirtual 131, 3) := by decide +kernel
theorem dX2_workRow_26 : decode cX2_workRow 26 = .ok (.aload_n 0, 1) := by decide +kernel
theorem dX2_workRow_27 : decode cX2_workRow 27 = .ok (.getfield 19, 3) := by decide +kernel
theorem dX2_workRow_30 : decode cX2_workRow 30 = .ok (.aload_n 0, 1) := by decide +kernel
theorem dX2_workRow_31 : decode cX2_workRow 31 = .ok (.getfield 12, 3) := by decide +kernel
theorem dX2_workRow_34 : decode cX2_workRow 34 = .ok (.iload_n 2, 1) := by decide +kernel
theorem dX2_workRow_35 : decode cX2_workRow 35 = .ok (.invokevirtual 135, 3) := by decide +kernel
theorem dX2_workRow_38 : decode cX2_workRow 38 = .ok (.iconst 0, 1) := by decide +kernel
theorem dX2_workRow_39 : decode cX2_workRow 39 = .ok (.istore_n 3, 1) := by decide +kernel
theorem dX2_workRow_40 : decode cX2_workRow 40 = .ok (.iload_n 3, 1) := by decide +kernel
theorem dX2_workRow_41 : decode cX2_workRow 41 = .ok (.aload_n 0, 1) := by decide +kernel
theorem dX2_workRow_42 : decode cX2_workRow 42 = .ok (.getfield 158, 3) := by decide +kernel
theorem dX2_workRow_45 : decode cX2_workRow 45 = .ok (.if_icmp .ge 35, 3) := by decide +kernel
theorem dX2_workRow_48 : decode cX2_workRow 48 = .ok (.aload_n 0, 1) := by decide +kernel
theorem dX2_workRow_49 : decode cX2_workRow 49 = .ok (.getfield 35, 3) := by decide +kernel
theorem dX2_workRow_52 : decode cX2_workRow 52 = .ok (.iload_n 1, 1) := by decide +kernel
theorem dX2_workRow_53 : decode cX2_workRow 53 = .ok (.aaload, 1) := by decide +kernel
theorem dX2_workRow_54 : decode cX2_workRow 54 = .ok (.iload_n 3, 1) := by decide +kernel
theorem dX2_workRow_55 : decode cX2_workRow 55 = .ok (.aload_n 0, 1) := by decide +kernel
theorem dX2_workRow_56 : decode cX2_workRow 56 = .ok (.getfield 19, 3) := by decide +kernel
theorem dX2_workRow_59 : decode cX2_workRow 59 = .ok (.aload_n 0, 1) := by decide +kernel
theorem dX2_workRow_60 : decode cX2_workRow 60 = .ok (.getfield 12, 3) := by decide +kernel
theorem dX2_workRow_63 : decode cX2_workRow 63 = .ok (.iload_n 2, 1) := by decide +kernel
theorem dX2_workRow_64 : decode cX2_workRow 64 = .ok (.aload_n 0, 1) := by decide +kernel
theorem dX2_workRow_65 : decode cX2_workRow 65 = .ok (.getfield 27, 3) := by decide +kernel
theorem dX2_workRow_68 : decode cX2_workRow 68 = .ok (.iload_n 3, 1) := by decide +kernel
theorem dX2_workRow_69 : decode cX2_workRow 69 = .ok (.iaload, 1) := by decide +kernel
theorem dX2_workRow_70 : decode cX2_workRow 70 = .ok (.invokevirtual 146, 3) := by decide +kernel
theorem dX2_workRow_73 : decode cX2_workRow 73 = .ok (.iastore, 1) := by decide +kernel
theorem dX2_workRow_74 : decode cX2_workRow 74 = .ok (.iinc 3 1, 3) := by decide +kernel
theorem dX2_workRow_77 : decode cX2_workRow 77 = .ok (.goto (-37), 3) := by decide +kernel
theorem dX2_workRow_80 : decode cX2_workRow 80 = .ok (.aload_n 0, 1) := by decide +kernel
theorem dX2_workRow_81 : decode cX2_workRow 81 = .ok (.getfield 38, 3) := by decide +kernel
theorem dX2_workRow_84 : decode cX2_workRow 84 = .ok (.iload_n 1, 1) := by decide +kernel
theorem dX2_workRow_85 : decode cX2_workRow 85 = .ok (.aload_n 0, 1) := by decide +kernel
theorem dX2_workRow_86 : decode cX2_workRow 86 = .ok (.getfield 59, 3) := by decide +kernel
theorem dX2_workRow_89 : decode cX2_workRow 89 = .ok (.iastore, 1) := by decide +kernel
theorem dX2_workRow_90 : decode cX2_workRow 90 = .ok (.aload_n 0, 1) := by decide +kernel
theorem dX2_workRow_91 : decode cX2_workRow 91 = .ok (.dup, 1) := by decide +kernel
theorem dX2_workRow_92 : decode cX2_workRow 92 = .ok (.getfield 174, 3) := by decide +kernel
theorem dX2_workRow_95 : decode cX2_workRow 95 = .ok (.iconst 1, 1) := by decide +kernel
theorem dX2_workRow_96 : decode cX2_workRow 96 = .ok (.iadd, 1) := by decide +kernel
theorem dX2_workRow_97 : decode cX2_workRow 97 = .ok (.putfield 174, 3) := by decide +kernel
theorem dX2_workRow_100 : decode cX2_workRow 100 = .ok (.return_, 1) := by decide +kernel
set_option maxRecDepth 20000 in
theorem ggX2_needJourney_X2_needPiece : GoodIn wsX2_needJourney wsX2_needPiece := goodIn_ca (goodIn_r _ [8, 1, 2, 9, 13, 14, 15, 16, 17, 18, 19, 20, 21, 22, 23, 24, 25, 26, 27, 28, 29, 30, 31, 32, 33, 34, 35, 36, 37, 38] (by decide +kernel) (by decide +kernel)) (goodIn_sub (fun _ h => List.mem_cons_of_mem _ (List.mem_append_right _ h)) (by decide +kernel))
set_option maxRecDepth 20000 in
theorem gX2_needJourney_X2_needPiece : GoodIn wsX2_needJourney (wsV RX2 66 RX2 yX2_needPiece wsX2_needPiece) := goodIn_app (goodIn_of _ (by decide +kernel)) ggX2_needJourney_X2_needPiece
set_option maxRecDepth 20000 in
theorem ggX2_needJourney_X2_needHour : GoodIn wsX2_needJourney wsX2_needHour := goodIn_ca (goodIn_r _ [12, 1, 2] (by decide +kernel) (by decide +kernel)) (goodIn_sub (fun _ h => List.mem_cons_of_mem _ (List.mem_append_right _ h)) (by decide +kernel))
set_option maxRecDepth 20000 in
theorem gX2_needJourney_X2_needHour : GoodIn wsX2_needJourney (va_wsS RX2 105 yX2_needHour wsX2_needHour) := goodIn_app (goodIn_of _ (by decide +kernel)) ggX2_needJourney_X2_needHour
theorem dX2_needJourney_0 : decode cX2_needJourney 0 = .ok (.iload_n 1, 1) := by decide +kernel
theorem dX2_needJourney_1 : decode cX2_needJourney 1 = .ok (.ifCond .lt 11, 3) := by decide +kernel
theorem dX2_needJourney_4 : decode cX2_needJourney 4 = .ok (.iload_n 1, 1) := by decide +kernel
theorem dX2_needJourney_5 : decode cX2_needJourney 5 = .ok (.aload_n 0, 1) := by decide +kernel
theorem dX2_needJourney_6 : decode cX2_needJourney 6 = .ok (.getfield 118, 3) := by decide +kernel
theorem dX2_needJourney_9 : decode cX2_needJourney 9 = .ok (.if_icmp .lt 13, 3) := by decide +kernel
theorem dX2_needJourney_12 : decode cX2_needJourney 12 = .ok (.new 41, 3) := by decide +kernel
theorem dX2_needJourney_15 : decode cX2_needJourney 15 = .ok (.dup, 1) := by decide +kernel
theorem dX2_needJourney_16 : decode cX2_needJourney 16 = .ok (.ldc 190, 2) := by decide +kernel
theorem dX2_needJourney_18 : decode cX2_needJourney 18 = .ok (.invokespecial 45, 3) := by decide +kernel
theorem dX2_needJourney_21 : decode cX2_needJourney 21 = .ok (.athrow, 1) := by decide +kernel
theorem dX2_needJourney_22 : decode cX2_needJourney 22 = .ok (.aload_n 0, 1) := by decide +kernel
theorem dX2_needJourney_23 : decode cX2_needJourney 23 = .ok (.iload_n 2, 1) := by decide +kernel
theorem dX2_needJourney_24 : decode cX2_needJourney 24 = .ok (.invokevirtual 66, 3) := by decide +kernel
theorem dX2_needJourney_27 : decode cX2_needJourney 27 = .ok (.aload_n 0, 1) := by decide +kernel
theorem dX2_needJourney_28 : decode cX2_needJourney 28 = .ok (.iload_n 3, 1) := by decide +kernel
theorem dX2_needJourney_29 : decode cX2_needJourney 29 = .ok (.invokevirtual 66, 3) := by decide +kernel
theorem dX2_needJourney_32 : decode cX2_needJourney 32 = .ok (.iload 4, 2) := by decide +kernel
theorem dX2_needJourney_34 : decode cX2_needJourney 34 = .ok (.invokestatic 105, 3) := by decide +kernel
theorem dX2_needJourney_37 : decode cX2_needJourney 37 = .ok (.return_, 1) := by decide +kernel
theorem dX2_needPiece_0 : decode cX2_needPiece 0 = .ok (.iload_n 1, 1) := by decide +kernel
theorem dX2_needPiece_1 : decode cX2_needPiece 1 = .ok (.ifCond .lt 14, 3) := by decide +kernel
theorem dX2_needPiece_4 : decode cX2_needPiece 4 = .ok (.iload_n 1, 1) := by decide +kernel
theorem dX2_needPiece_5 : decode cX2_needPiece 5 = .ok (.aload_n 0, 1) := by decide +kernel
theorem dX2_needPiece_6 : decode cX2_needPiece 6 = .ok (.getfield 12, 3) := by decide +kernel
theorem dX2_needPiece_9 : decode cX2_needPiece 9 = .ok (.getfield 50, 3) := by decide +kernel
theorem dX2_needPiece_12 : decode cX2_needPiece 12 = .ok (.if_icmp .lt 13, 3) := by decide +kernel
theorem dX2_needPiece_15 : decode cX2_needPiece 15 = .ok (.new 41, 3) := by decide +kernel
theorem dX2_needPiece_18 : decode cX2_needPiece 18 = .ok (.dup, 1) := by decide +kernel
theorem dX2_needPiece_19 : decode cX2_needPiece 19 = .ok (.ldc 192, 2) := by decide +kernel
theorem dX2_needPiece_21 : decode cX2_needPiece 21 = .ok (.invokespecial 45, 3) := by decide +kernel
theorem dX2_needPiece_24 : decode cX2_needPiece 24 = .ok (.athrow, 1) := by decide +kernel
theorem dX2_needPiece_25 : decode cX2_needPiece 25 = .ok (.return_, 1) := by decide +kernel
theorem dX2_needHour_0 : decode cX2_needHour 0 = .ok (.iload_n 0, 1) := by decide +kernel
theorem dX2_needHour_1 : decode cX2_needHour 1 = .ok (.ifCond .lt 9, 3) := by decide +kernel
theorem dX2_needHour_4 : decode cX2_needHour 4 = .ok (.iload_n 0, 1) := by decide +kernel
theorem dX2_needHour_5 : decode cX2_needHour 5 = .ok (.bipush 24, 2) := by decide +kernel
theorem dX2_needHour_7 : decode cX2_needHour 7 = .ok (.if_icmp .lt 13, 3) := by decide +kernel
theorem dX2_needHour_10 : decode cX2_needHour 10 = .ok (.new 41, 3) := by decide +kernel
theorem dX2_needHour_13 : decode cX2_needHour 13 = .ok (.dup, 1) := by decide +kernel
theorem dX2_needHour_14 : decode cX2_needHour 14 = .ok (.ldc 194, 2) := by decide +kernel
theorem dX2_needHour_16 : decode cX2_needHour 16 = .ok (.invokespecial 45, 3) := by decide +kernel
theorem dX2_needHour_19 : decode cX2_needHour 19 = .ok (.athrow, 1) := by decide +kernel
theorem dX2_needHour_20 : decode cX2_needHour 20 = .ok (.return_, 1) := by decide +kernel
theorem dX2_needWidth_0 : decode cX2_needWidth 0 = .ok (.iload_n 0, 1) := by decide +kernel
theorem dX2_needWidth_1 : decode cX2_needWidth 1 = .ok (.iconst 1, 1) := by decide +kernel
theorem dX2_needWidth_2 : decode cX2_needWidth 2 = .ok (.if_icmp .lt 10, 3) := by decide +kernel
theorem dX2_needWidth_5 : decode cX2_needWidth 5 = .ok (.iload_n 0, 1) := by decide +kernel
theorem dX2_needWidth_6 : decode cX2_needWidth 6 = .ok (.sipush 500, 3) := by decide +kernel
theorem dX2_needWidth_9 : decode cX2_needWidth 9 = .ok (.if_icmp .le 13, 3) := by decide +kernel
theorem dX2_needWidth_12 : decode cX2_needWidth 12 = .ok (.new 41, 3) := by decide +kernel
theorem dX2_needWidth_15 : decode cX2_needWidth 15 = .ok (.dup, 1) := by decide +kernel
theorem dX2_needWidth_16 : decode cX2_needWidth 16 = .ok (.ldc 196, 2) := by decide +kernel
theorem dX2_needWidth_18 : decode cX2_needWidth 18 = .ok (.invokespecial 45, 3) := by decide +kernel
theorem dX2_needWidth_21 : decode cX2_needWidth 21 = .ok (.athrow, 1) := by decide +kernel
theorem dX2_needWidth_22 : decode cX2_needWidth 22 = .ok (.return_, 1) := by decide +kernel
theorem dX2_needZeroOrOne_0 : decode cX2_needZeroOrOne 0 = .ok (.iload_n 0, 1) := by decide +kernel
theorem dX2_needZeroOrOne_1 : decode cX2_needZeroOrOne 1 = .ok (.ifCond .eq 18, 3) := by decide +kernel
theorem dX2_needZeroOrOne_4 : decode cX2_needZeroOrOne 4 = .ok (.iload_n 0, 1) := by decide +kernel
theorem dX2_needZeroOrOne_5 : decode cX2_needZeroOrOne 5 = .ok (.iconst 1, 1) := by decide +kernel
theorem dX2_needZeroOrOne_6 : decode cX2_needZeroOrOne 6 = .ok (.if_icmp .eq 13, 3) := by decide +kernel
theorem dX2_needZeroOrOne_9 : decode cX2_needZeroOrOne 9 = .ok (.new 41, 3) := by decide +kernel
theorem dX2_needZeroOrOne_12 : decode cX2_needZeroOrOne 12 = .ok (.dup, 1) := by decide +kernel
theorem dX2_needZeroOrOne_13 : decode cX2_needZeroOrOne 13 = .ok (.ldc 198, 2) := by decide +kernel
theorem dX2_needZeroOrOne_15 : decode cX2_needZeroOrOne 15 = .ok (.invokespecial 45, 3) := by decide +kernel
theorem dX2_needZeroOrOne_18 : decode cX2_needZeroOrOne 18 = .ok (.athrow, 1) := by decide +kernel
theorem dX2_needZeroOrOne_19 : decode cX2_needZeroOrOne 19 = .ok (.return_, 1) := by decide +kernel
theorem dX3_init_0 : decode cX3_init 0 = .ok (.aload_n 0, 1) := by decide +kernel
theorem dX3_init_1 : decode cX3_init 1 = .ok (.invokespecial 1, 3) := by decide +kernel
theorem dX3_init_4 : decode cX3_init 4 = .ok (.aload_n 0, 1) := by decide +kernel
theorem dX3_init_5 : decode cX3_init 5 = .ok (.bipush 20, 2) := by decide +kernel
theorem dX3_init_7 : decode cX3_init 7 = .ok (.newarray .int, 2) := by decide +kernel
theorem dX3_init_9 : decode cX3_init 9 = .ok (.putfield 7, 3) := by decide +kernel
theorem dX3_init_12 : decode cX3_init 12 = .ok (.aload_n 0, 1) := by decide +kernel
theorem dX3_init_13 : decode cX3_init 13 = .ok (.bipush 20, 2) := by decide +kernel
theorem dX3_init_15 : decode cX3_init 15 = .ok (.newarray .int, 2) := by decide +kernel
theorem dX3_init_17 : decode cX3_init 17 = .ok (.putfield 13, 3) := by decide +kernel
theorem dX3_init_20 : decode cX3_init 20 = .ok (.aload_n 0, 1) := by decide +kernel
theorem dX3_init_21 : decode cX3_init 21 = .ok (.bipush 20, 2) := by decide +kernel
theorem dX3_init_23 : decode cX3_init 23 = .ok (.newarray .int, 2) := by decide +kernel
theorem dX3_init_25 : decode cX3_init 25 = .ok (.putfield 16, 3) := by decide +kernel
theorem dX3_init_28 : decode cX3_init 28 = .ok (.aload_n 0, 1) := by decide +kernel
theorem dX3_init_29 : decode cX3_init 29 = .ok (.bipush 20, 2) := by decide +kernel
theorem dX3_init_31 : decode cX3_init 31 = .ok (.newarray .boolean, 2) := by decide +kernel
theorem dX3_init_33 : decode cX3_init 33 = .ok (.putfield 19, 3) := by decide +kernel
theorem dX3_init_36 : decode cX3_init 36 = .ok (.aload_n 0, 1) := by decide +kernel
theorem dX3_init_37 : decode cX3_init 37 = .ok (.bipush 20, 2) := by decide +kernel
theorem dX3_init_39 : decode cX3_init 39 = .ok (.newarray .boolean, 2) := by decide +kernel
theorem dX3_init_41 : decode cX3_init 41 = .ok (.putfield 23, 3) := by decide +kernel
theorem dX3_init_44 : decode cX3_init 44 = .ok (.aload_n 0, 1) := by decide +kernel
theorem dX3_init_45 : decode cX3_init 45 = .ok (.bipush 20, 2) := by decide +kernel
theorem dX3_init_47 : decode cX3_init 47 = .ok (.newarray .int, 2) := by decide +kernel
theorem dX3_init_49 : decode cX3_init 49 = .ok (.putfield 26, 3) := by decide +kernel
theorem dX3_init_52 : decode cX3_init 52 = .ok (.aload_n 0, 1) := by decide +kernel
theorem dX3_init_53 : decode cX3_init 53 = .ok (.bipush 40, 2) := by decide +kernel
theorem dX3_init_55 : decode cX3_init 55 = .ok (.newarray .int, 2) := by decide +kernel
theorem dX3_init_57 : decode cX3_init 57 = .ok (.putfield 29, 3) := by decide +kernel
theorem dX3_init_60 : decode cX3_init 60 = .ok (.aload_n 0, 1) := by decide +kernel
theorem dX3_init_61 : decode cX3_init 61 = .ok (.bipush 40, 2) := by decide +kernel
theorem dX3_init_63 : decode cX3_init 63 = .ok (.newarray .int, 2) := by decide +kernel
theorem dX3_init_65 : decode cX3_init 65 = .ok (.putfield 32, 3) := by decide +kernel
theorem dX3_init_68 : decode cX3_init 68 = .ok (.aload_n 0, 1) := by decide +kernel
theorem dX3_init_69 : decode cX3_init 69 = .ok (.bipush 40, 2) := by decide +kernel
theorem dX3_init_71 : decode cX3_init 71 = .ok (.newarray .int, 2) := by decide +kernel
theorem dX3_init_73 : decode cX3_init 73 = .ok (.putfield 35, 3) := by decide +kernel
theorem dX3_init_76 : decode cX3_init 76 = .ok (.aload_n 0, 1) := by decide +kernel
theorem dX3_init_77 : decode cX3_init 77 = .ok (.bipush 40, 2) := by decide +kernel
theorem dX3_init_79 : decode cX3_init 79 = .ok (.newarray .int, 2) := by decide +kernel
theorem dX3_init_81 : decode cX3_init 81 = .ok (.putfield 38, 3) := by decide +kernel
theorem dX3_init_84 : decode cX3_init 84 = .ok (.aload_n 0, 1) := by decide +kernel
theorem dX3_init_85 : decode cX3_init 85 = .ok (.bipush 6, 2) := by decide +kernel
theorem dX3_init_87 : decode cX3_init 87 = .ok (.newarray .int, 2) := by decide +kernel
theorem dX3_init_89 : decode cX3_init 89 = .ok (.putfield 41, 3) := by decide +kernel
theorem dX3_init_92 : decode cX3_init 92 = .ok (.aload_n 0, 1) := by decide +kernel
theorem dX3_init_93 : decode cX3_init 93 = .ok (.bipush 8, 2) := by decide +kernel
theorem dX3_init_95 : decode cX3_init 95 = .ok (.newarray .int, 2) := by decide +kernel
theorem dX3_init_97 : decode cX3_init 97 = .ok (.putfield 44, 3) := by decide +kernel
theorem dX3_init_100 : decode cX3_init 100 = .ok (.aload_n 0, 1) := by decide +kernel
theorem dX3_init_101 : decode cX3_init 101 = .ok (.bipush 8, 2) := by decide +kernel
theorem dX3_init_103 : decode cX3_init 103 = .ok (.newarray .int, 2) := by decide +kernel
theorem dX3_init_105 : decode cX3_init 105 = .ok (.putfield 47, 3) := by decide +kernel
theorem dX3_init_108 : decode cX3_init 108 = .ok (.aload_n 0, 1) := by decide +kernel
theorem dX3_init_109 : decode cX3_init 109 = .ok (.bipush 40, 2) := by decide +kernel
theorem dX3_init_111 : decode cX3_init 111 = .ok (.newarray .int, 2) := by decide +kernel
theorem dX3_init_113 : decode cX3_init 113 = .ok (.putfield 50, 3) := by decide +kernel
theorem dX3_init_116 : decode cX3_init 116 = .ok (.aload_n 0, 1) := by decide +kernel
theorem dX3_init_117 : decode cX3_init 117 = .ok (.bipush 42, 2) := by decide +kernel
theorem dX3_init_119 : decode cX3_init 119 = .ok (.newarray .int, 2) := by decide +kernel
theorem dX3_init_121 : decode cX3_init 121 = .ok (.putfield 53, 3) := by decide +kernel
theorem dX3_init_124 : decode cX3_init 124 = .ok (.aload_n 0, 1) := by decide +kernel
theorem dX3_init_125 : decode cX3_init 125 = .ok (.bipush 7, 2) := by decide +kernel
theorem dX3_init_127 : decode cX3_init 127 = .ok (.newarray .int, 2) := by decide +kernel
theorem dX3_init_129 : decode cX3_init 129 = .ok (.putfield 56, 3) := by decide +kernel
theorem dX3_init_132 : decode cX3_init 132 = .ok (.iconst 0, 1) := by decide +kernel
theorem dX3_init_133 : decode cX3_init 133 = .ok (.istore_n 1, 1) := by decide +kernel
theorem dX3_init_134 : decode cX3_init 134 = .ok (.iload_n 1, 1) := by decide +kernel
theorem dX3_init_135 : decode cX3_init 135 = .ok (.bipush 8, 2) := by decide +kernel
theorem dX3_init_137 : decode cX3_init 137 = .ok (.if_icmp .ge 16, 3) := by decide +kernel
theorem dX3_init_140 : decode cX3_init 140 = .ok (.aload_n 0, 1) := by decide +kernel
theorem dX3_init_141 : decode cX3_init 141 = .ok (.getfield 47, 3) := by decide +kernel
theorem dX3_init_144 : decode cX3_init 144 = .ok (.iload_n 1, 1) := by decide +kernel
theorem dX3_init_145 : decode cX3_init 145 = .ok (.iconst (-1), 1) := by decide +kernel
theorem dX3_init_146 : decode cX3_init 146 = .ok (.iastore, 1) := by decide +kernel
theorem dX3_init_147 : decode cX3_init 147 = .ok (.iinc 1 1, 3) := by decide +kernel
theorem dX3_init_150 : decode cX3_init 150 = .ok (.goto (-16), 3) := by decide +kernel
theorem dX3_init_153 : decode cX3_init 153 = .ok (.return_, 1) := by decide +kernel
theorem dX3_thrown_0 : decode cX3_thrown 0 = .ok (.aload_n 0, 1) := by decide +kernel
theorem dX3_thrown_1 : decode cX3_thrown 1 = .ok (.getfield 59, 3) := by decide +kernel
theorem dX3_thrown_4 : decode cX3_thrown 4 = .ok (.ireturn, 1) := by decide +kernel
theorem dX3_in_0 : decode cX3_in 0 = .ok (.iload_n 0, 1) := by decide +kernel
theorem dX3_in_1 : decode cX3_in 1 = .ok (.iload_n 1, 1) := by decide +kernel
theorem dX3_in_2 : decode cX3_in 2 = .ok (.if_icmp .lt 12, 3) := by decide +kernel
theorem dX3_in_5 : decode cX3_in 5 = .ok (.iload_n 0, 1) := by decide +kernel
theorem dX3_in_6 : decode cX3_in 6 = .ok (.iload_n 2, 1) := by decide +kernel
theorem dX3_in_7 : decode cX3_in 7 = .ok (.if_icmp .gt 7, 3) := by decide +kernel
theorem dX3_in_10 : decode cX3_in 10 = .ok (.iconst 1, 1) := by decide +kernel
theorem dX3_in_11 : decode cX3_in 11 = .ok (.goto 4, 3) := by decide +kernel
theorem dX3_in_14 : decode cX3_in 14 = .ok (.iconst 0, 1) := by decide +kernel
theorem dX3_in_15 : decode cX3_in 15 = .ok (.ireturn, 1) := by decide +kernel
set_option maxRecDepth 20000 in
theorem ggX3_isPiece_X3_in : GoodIn wsX3_isPiece wsX3_in := goodIn_r _ [5] (by decide +kernel) (by decide +kernel)
set_option maxRecDepth 20000 in
theorem gX3_isPiece_X3_in : GoodIn wsX3_isPiece (va_wsS RX3 66 yX3_in wsX3_in) := goodIn_app (goodIn_of _ (by decide +kernel)) ggX3_isPiece_X3_in
theorem dX3_isPiece_0 : decode cX3_isPiece 0 = .ok (.iload_n 1, 1) := by decide +kernel
theorem dX3_isPiece_1 : decode cX3_isPiece 1 = .ok (.iconst 0, 1) := by decide +kernel
theorem dX3_isPiece_2 : decode cX3_isPiece 2 = .ok (.aload_n 0, 1) := by decide +kernel
theorem dX3_isPiece_3 : decode cX3_isPiece 3 = .ok (.getfield 63, 3) := by decide +kernel
theorem dX3_isPiece_6 : decode cX3_isPiece 6 = .ok (.iconst 1, 1) := by decide +kernel
theorem dX3_isPiece_7 : decode cX3_isPiece 7 = .ok (.isub, 1) := by decide +kernel
theorem dX3_isPiece_8 : decode cX3_isPiece 8 = .ok (.invokestatic 66, 3) := by decide +kernel
theorem dX3_isPiece_11 : decode cX3_isPiece 11 = .ok (.ireturn, 1) := by decide +kernel
set_option maxRecDepth 20000 in
theorem ggX3_piece_X3_in : GoodIn wsX3_piece wsX3_in := goodIn_r _ [11] (by decide +kernel) (by decide +kernel)
set_option maxRecDepth 20000 in
theorem gX3_piece_X3_in : GoodIn wsX3_piece (va_wsS RX3 66 yX3_in wsX3_in) := goodIn_app (goodIn_of _ (by decide +kernel)) ggX3_piece_X3_in
theorem dX3_piece_0 : decode cX3_piece 0 = .ok (.aload_n 0, 1) := by decide +kernel
theorem dX3_piece_1 : decode cX3_piece 1 = .ok (.iload_n 1, 1) := by decide +kernel
theorem dX3_piece_2 : decode cX3_piece 2 = .ok (.iconst 0, 1) := by decide +kernel
theorem dX3_piece_3 : decode cX3_piece 3 = .ok (.bipush 9, 2) := by decide +kernel
theorem dX3_piece_5 : decode cX3_piece 5 = .ok (.invokestatic 66, 3) := by decide +kernel
theorem dX3_piece_8 : decode cX3_piece 8 = .ok (.ifCond .eq 14, 3) := by decide +kernel
theorem dX3_piece_11 : decode cX3_piece 11 = .ok (.iload_n 2, 1) := by decide +kernel
theorem dX3_piece_12 : decode cX3_piece 12 = .ok (.iconst 1, 1) := by decide +kernel
theorem dX3_piece_13 : decode cX3_piece 13 = .ok (.sipush 1000, 3) := by decide +kernel
theorem dX3_piece_16 : decode cX3_piece 16 = .ok (.invokestatic 66, 3) := by decide +kernel
theorem dX3_piece_19 : decode cX3_piece 19 = .ok (.ifCond .ne 7, 3) := by decide +kernel
theorem dX3_piece_22 : decode cX3_piece 22 = .ok (.iconst 1, 1) := by decide +kernel
theorem dX3_piece_23 : decode cX3_piece 23 = .ok (.goto 17, 3) := by decide +kernel
theorem dX3_piece_26 : decode cX3_piece 26 = .ok (.aload_n 0, 1) := by decide +kernel
theorem dX3_piece_27 : decode cX3_piece 27 = .ok (.getfield 63, 3) := by decide +kernel
theorem dX3_piece_30 : decode cX3_piece 30 = .ok (.bipush 20, 2) := by decide +kernel
theorem dX3_piece_32 : decode cX3_piece 32 = .ok (.if_icmp .ne 7, 3) := by decide +kernel
theorem dX3_piece_35 : decode cX3_piece 35 = .ok (.iconst 2, 1) := by decide +kernel
theorem dX3_piece_36 : decode cX3_piece 36 = .ok (.goto 4, 3) := by decide +kernel
theorem dX3_piece_39 : decode cX3_piece 39 = .ok (.iconst 0, 1) := by decide +kernel
theorem dX3_piece_40 : decode cX3_piece 40 = .ok (.putfield 59, 3) := by decide +kernel
theorem dX3_piece_43 : decode cX3_piece 43 = .ok (.aload_n 0, 1) := by decide +kernel
theorem dX3_piece_44 : decode cX3_piece 44 = .ok (.getfield 59, 3) := by decide +kernel
theorem dX3_piece_47 : decode cX3_piece 47 = .ok (.ifCond .le 5, 3) := by decide +kernel
theorem dX3_piece_50 : decode cX3_piece 50 = .ok (.iconst 0, 1) := by decide +kernel
theorem dX3_piece_51 : decode cX3_piece 51 = .ok (.ireturn, 1) := by decide +kernel
theorem dX3_piece_52 : decode cX3_piece 52 = .ok (.aload_n 0, 1) := by decide +kernel
theorem dX3_piece_53 : decode cX3_piece 53 = .ok (.getfield 7, 3) := by decide +kernel
theorem dX3_piece_56 : decode cX3_piece 56 = .ok (.aload_n 0, 1) := by decide +kernel
theorem dX3_piece_57 : decode cX3_piece 57 = .ok (.getfield 63, 3) := by decide +kernel
theorem dX3_piece_60 : decode cX3_piece 60 = .ok (.iload_n 1, 1) := by decide +kernel
theorem dX3_piece_61 : decode cX3_piece 61 = .ok (.iastore, 1) := by decide +kernel
theorem dX3_piece_62 : decode cX3_piece 62 = .ok (.aload_n 0, 1) := by decide +kernel
theorem dX3_piece_63 : decode cX3_piece 63 = .ok (.getfield 13, 3) := by decide +kernel
theorem dX3_piece_66 : decode cX3_piece 66 = .ok (.aload_n 0, 1) := by decide +kernel
theorem dX3_piece_67 : decode cX3_piece 67 = .ok (.getfield 63, 3) := by decide +kernel
theorem dX3_piece_70 : decode cX3_piece 70 = .ok (.iload_n 2, 1) := by decide +kernel
theorem dX3_piece_71 : decode cX3_piece 71 = .ok (.iastore, 1) := by decide +kernel
theorem dX3_piece_72 : decode cX3_piece 72 = .ok (.aload_n 0, 1) := by decide +kernel
theorem dX3_piece_73 : decode cX3_piece 73 = .ok (.getfield 16, 3) := by decide +kernel
theorem dX3_piece_76 : decode cX3_piece 76 = .ok (.aload_n 0, 1) := by decide +kernel
theorem dX3_piece_77 : decode cX3_piece 77 = .ok (.getfield 63, 3) := by decide +kernel
theorem dX3_piece_80 : decode cX3_piece 80 = .ok (.bipush 100, 2) := by decide +kernel
theorem dX3_piece_82 : decode cX3_piece 82 = .ok (.iastore, 1) := by decide +kernel
theorem dX3_piece_83 : decode cX3_piece 83 = .ok (.aload_n 0, 1) := by decide +kernel
theorem dX3_piece_84 : decode cX3_piece 84 = .ok (.getfield 19, 3) := by decide +kernel
theorem dX3_piece_87 : decode cX3_piece 87 = .ok (.aload_n 0, 1) := by decide +kernel
theorem dX3_piece_88 : decode cX3_piece 88 = .ok (.getfield 63, 3) := by decide +kernel
theorem dX3_piece_91 : decode cX3_piece 91 = .ok (.iload_n 3, 1) := by decide +kernel
theorem dX3_piece_92 : decode cX3_piece 92 = .ok (.bastore, 1) := by decide +kernel
theorem dX3_piece_93 : decode cX3_piece 93 = .ok (.aload_n 0, 1) := by decide +kernel
theorem dX3_piece_94 : decode cX3_piece 94 = .ok (.dup, 1) := by decide +kernel
theorem dX3_piece_95 : decode cX3_piece 95 = .ok (.getfield 63, 3) := by decide +kernel
theorem dX3_piece_98 : decode cX3_piece 98 = .ok (.iconst 1, 1) := by decide +kernel
theorem dX3_piece_99 : decode cX3_piece 99 = .ok (.iadd, 1) := by decide +kernel
theorem dX3_piece_100 : decode cX3_piece 100 = .ok (.putfield 63, 3) := by decide +kernel
theorem dX3_piece_103 : decode cX3_piece 103 = .ok (.aload_n 0, 1) := by decide +kernel
theorem dX3_piece_104 : decode cX3_piece 104 = .ok (.dup, 1) := by decide +kernel
theorem dX3_piece_105 : decode cX3_piece 105 = .ok (.getfield 70, 3) := by decide +kernel
theorem dX3_piece_108 : decode cX3_piece 108 = .ok (.iconst 1, 1) := by decide +kernel
theorem dX3_piece_109 : decode cX3_piece 109 = .ok (.iadd, 1) := by decide +kernel
theorem dX3_piece_110 : decode cX3_piece 110 = .ok (.putfield 70, 3) := by decide +kernel
theorem dX3_piece_113 : decode cX3_piece 113 = .ok (.aload_n 0, 1) := by decide +kernel
theorem dX3_piece_114 : decode cX3_piece 114 = .ok (.getfield 63, 3) := by decide +kernel
theorem dX3_piece_117 : decode cX3_piece 117 = .ok (.iconst 1, 1) := by decide +kernel
theorem dX3_piece_118 : decode cX3_piece 118 = .ok (.isub, 1) := by decide +kernel
theorem dX3_piece_119 : decode cX3_piece 119 = .ok (.ireturn, 1) := by decide +kernel
theorem dX3_link_0 : decode cX3_link 0 = .ok (.aload_n 0, 1) := by decide +kernel
theorem dX3_link_1 : decode cX3_link 1 = .ok (.getfield 29, 3) := by decide +kernel
theorem dX3_link_4 : decode cX3_link 4 = .ok (.aload_n 0, 1) := by decide +kernel
theorem dX3_link_5 : decode cX3_link 5 = .ok (.getfield 73, 3) := by decide +kernel
theorem dX3_link_8 : decode cX3_link 8 = .ok (.iload_n 1, 1) := by decide +kernel
theorem dX3_link_9 : decode cX3_link 9 = .ok (.iastore, 1) := by decide +kernel
theorem dX3_link_10 : decode cX3_link 10 = .ok (.aload_n 0, 1) := by decide +kernel
theorem dX3_link_11 : decode cX3_link 11 = .ok (.getfield 32, 3) := by decide +kernel
theorem dX3_link_14 : decode cX3_link 14 = .ok (.aload_n 0, 1) := by decide +kernel
theorem dX3_link_15 : decode cX3_link 15 = .ok (.getfield 73, 3) := by decide +kernel
theorem dX3_link_18 : decode cX3_link 18 = .ok (.iload_n 2, 1) := by decide +kernel
theorem dX3_link_19 : decode cX3_link 19 = .ok (.iastore, 1) := by decide +kernel
theorem dX3_link_20 : decode cX3_link 20 = .ok (.aload_n 0, 1) := by decide +kernel
theorem dX3_link_21 : decode cX3_link 21 = .ok (.getfield 35, 3) := by decide +kernel
theorem dX3_link_24 : decode cX3_link 24 = .ok (.aload_n 0, 1) := by decide +kernel
theorem dX3_link_25 : decode cX3_link 25 = .ok (.getfield 73, 3) := by decide +kernel
theorem dX3_link_28 : decode cX3_link 28 = .ok (.iload_n 3, 1) := by decide +kernel
theorem dX3_link_29 : decode cX3_link 29 = .ok (.iastore, 1) := by decide +kernel
theorem dX3_link_30 : decode cX3_link 30 = .ok (.aload_n 0, 1) := by decide +kernel
theorem dX3_link_31 : decode cX3_link 31 = .ok (.dup, 1) := by decide +kernel
theorem dX3_link_32 : decode cX3_link 32 = .ok (.getfield 73, 3) := by decide +kernel
theorem dX3_link_35 : decode cX3_link 35 = .ok (.iconst 1, 1) := by decide +kernel
theorem dX3_link_36 : decode cX3_link 36 = .ok (.iadd, 1) := by decide +kernel
theorem dX3_link_37 : decode cX3_link 37 = .ok (.putfield 73, 3) := by decide +kernel
theorem dX3_link_40 : decode cX3_link 40 = .ok (.aload_n 0, 1) := by decide +kernel
theorem dX3_link_41 : decode cX3_link 41 = .ok (.dup, 1) := by decide +kernel
theorem dX3_link_42 : decode cX3_link 42 = .ok (.getfield 70, 3) := by decide +kernel
theorem dX3_link_45 : decode cX3_link 45 = .ok (.iconst 1, 1) := by decide +kernel
theorem dX3_link_46 : decode cX3_link 46 = .ok (.iadd, 1) := by decide +kernel
theorem dX3_link_47 : decode cX3_link 47 = .ok (.putfield 70, 3) := by decide +kernel
theorem dX3_link_50 : decode cX3_link 50 = .ok (.aload_n 0, 1) := by decide +kernel
theorem dX3_link_51 : decode cX3_link 51 = .ok (.getfield 73, 3) := by decide +kernel
theorem dX3_link_54 : decode cX3_link 54 = .ok (.iconst 1, 1) := by decide +kernel
theorem dX3_link_55 : decode cX3_link 55 = .ok (.isub, 1) := by decide +kernel
theorem dX3_link_56 : decode cX3_link 56 = .ok (.ireturn, 1) := by decide +kernel
set_option maxRecDepth 20000 in
theorem ggX3_join_X3_isPiece : GoodIn wsX3_join wsX3_isPiece := goodIn_r _ [8, 9, 10, 11, 7, 12, 21, 22, 23, 24, 25, 26, 27, 28, 29, 30, 31, 32, 33, 34, 35, 36, 37, 38, 39, 40, 41, 42, 43, 44] (by decide +kernel) (by decide +kernel)
set_option maxRecDepth 20000 in
theorem gX3_join_X3_isPiece : GoodIn wsX3_join (wsV RX3 76 RX3 yX3_isPiece wsX3_isPiece) := goodIn_app (goodIn_of _ (by decide +kernel)) ggX3_join_X3_isPiece
set_option maxRecDepth 20000 in
theorem ggX3_join_X3_in : GoodIn wsX3_join wsX3_in := goodIn_r _ [12] (by decide +kernel) (by decide +kernel)
set_option maxRecDepth 20000 in
theorem gX3_join_X3_in : GoodIn wsX3_join (va_wsS RX3 66 yX3_in wsX3_in) := goodIn_app (goodIn_of _ (by decide +kernel)) ggX3_join_X3_in
set_option maxRecDepth 20000 in
theorem ggX3_join_X3_link : GoodIn wsX3_join wsX3_link := goodIn_r _ [16, 17, 2, 18, 19, 20, 21, 22, 23, 24, 25, 26, 27, 28, 29, 30, 31, 32, 33, 34, 35, 36, 37, 38, 39, 40, 41, 42, 43, 44] (by decide +kernel) (by decide +kernel)
set_option maxRecDepth 20000 in
theorem gX3_join_X3_link : GoodIn wsX3_join (wsV RX3 80 RX3 yX3_link wsX3_link) := goodIn_app (goodIn_of _ (by decide +kernel)) ggX3_join_X3_link
theorem dX3_join_0 : decode cX3_join 0 = .ok (.aload_n 0, 1) := by decide +kernel
theorem dX3_join_1 : decode cX3_join 1 = .ok (.iload_n 1, 1) := by decide +kernel
theorem dX3_join_2 : decode cX3_join 2 = .ok (.invokevirtual 76, 3) := by decide +kernel
theorem dX3_join_5 : decode cX3_join 5 = .ok (.ifCond .eq 50, 3) := by decide +kernel
theorem dX3_join_8 : decode cX3_join 8 = .ok (.aload_n 0, 1) := by decide +kernel
theorem dX3_join_9 : decode cX3_join 9 = .ok (.iload_n 3, 1) := by decide +kernel
theorem dX3_join_10 : decode cX3_join 10 = .ok (.invokevirtual 76, 3) := by decide +kernel
theorem dX3_join_13 : decode cX3_join 13 = .ok (.ifCond .eq 42, 3) := by decide +kernel
theorem dX3_join_16 : decode cX3_join 16 = .ok (.iload_n 2, 1) := by decide +kernel
theorem dX3_join_17 : decode cX3_join 17 = .ok (.iconst 0, 1) := by decide +kernel
theorem dX3_join_18 : decode cX3_join 18 = .ok (.iconst 1, 1) := by decide +kernel
theorem dX3_join_19 : decode cX3_join 19 = .ok (.invokestatic 66, 3) := by decide +kernel
theorem dX3_join_22 : decode cX3_join 22 = .ok (.ifCond .eq 33, 3) := by decide +kernel
theorem dX3_join_25 : decode cX3_join 25 = .ok (.iload 4, 2) := by decide +kernel
theorem dX3_join_27 : decode cX3_join 27 = .ok (.iconst 0, 1) := by decide +kernel
theorem dX3_join_28 : decode cX3_join 28 = .ok (.iconst 1, 1) := by decide +kernel
theorem dX3_join_29 : decode cX3_join 29 = .ok (.invokestatic 66, 3) := by decide +kernel
theorem dX3_join_32 : decode cX3_join 32 = .ok (.ifCond .eq 23, 3) := by decide +kernel
theorem dX3_join_35 : decode cX3_join 35 = .ok (.iload_n 1, 1) := by decide +kernel
theorem dX3_join_36 : decode cX3_join 36 = .ok (.iload_n 3, 1) := by decide +kernel
theorem dX3_join_37 : decode cX3_join 37 = .ok (.if_icmp .eq 18, 3) := by decide +kernel
theorem dX3_join_40 : decode cX3_join 40 = .ok (.iload 5, 2) := by decide +kernel
theorem dX3_join_42 : decode cX3_join 42 = .ok (.iconst 0, 1) := by decide +kernel
theorem dX3_join_43 : decode cX3_join 43 = .ok (.bipush 100, 2) := by decide +kernel
theorem dX3_join_45 : decode cX3_join 45 = .ok (.invokestatic 66, 3) := by decide +kernel
theorem dX3_join_48 : decode cX3_join 48 = .ok (.ifCond .eq 7, 3) := by decide +kernel
theorem dX3_join_51 : decode cX3_join 51 = .ok (.iconst 1, 1) := by decide +kernel
theorem dX3_join_52 : decode cX3_join 52 = .ok (.goto 4, 3) := by decide +kernel
theorem dX3_join_55 : decode cX3_join 55 = .ok (.iconst 0, 1) := by decide +kernel
theorem dX3_join_56 : decode cX3_join 56 = .ok (.istore 6, 2) := by decide +kernel
theorem dX3_join_58 : decode cX3_join 58 = .ok (.iload 6, 2) := by decide +kernel
theorem dX3_join_60 : decode cX3_join 60 = .ok (.ifCond .eq 25, 3) := by decide +kernel
theorem dX3_join_63 : decode cX3_join 63 = .ok (.aload_n 0, 1) := by decide +kernel
theorem dX3_join_64 : decode cX3_join 64 = .ok (.getfield 7, 3) := by decide +kernel
theorem dX3_join_67 : decode cX3_join 67 = .ok (.iload_n 1, 1) := by decide +kernel
theorem dX3_join_68 : decode cX3_join 68 = .ok (.iaload, 1) := by decide +kernel
theorem dX3_join_69 : decode cX3_join 69 = .ok (.aload_n 0, 1) := by decide +kernel
theorem dX3_join_70 : decode cX3_join 70 = .ok (.getfield 7, 3) := by decide +kernel
theorem dX3_join_73 : decode cX3_join 73 = .ok (.iload_n 3, 1) := by decide +kernel
theorem dX3_join_74 : decode cX3_join 74 = .ok (.iaload, 1) := by decide +kernel
theorem dX3_join_75 : decode cX3_join 75 = .ok (.if_icmp .ne 7, 3) := by decide +kernel
theorem dX3_join_78 : decode cX3_join 78 = .ok (.iconst 1, 1) := by decide +kernel
theorem dX3_join_79 : decode cX3_join 79 = .ok (.goto 4, 3) := by decide +kernel
theorem dX3_join_82 : decode cX3_join 82 = .ok (.iconst 0, 1) := by decide +kernel
theorem dX3_join_83 : decode cX3_join 83 = .ok (.istore 6, 2) := by decide +kernel
theorem dX3_join_85 : decode cX3_join 85 = .ok (.aload_n 0, 1) := by decide +kernel
theorem dX3_join_86 : decode cX3_join 86 = .ok (.iload 6, 2) := by decide +kernel
theorem dX3_join_88 : decode cX3_join 88 = .ok (.ifCond .ne 7, 3) := by decide +kernel
theorem dX3_join_91 : decode cX3_join 91 = .ok (.iconst 1, 1) := by decide +kernel
theorem dX3_join_92 : decode cX3_join 92 = .ok (.goto 17, 3) := by decide +kernel
theorem dX3_join_95 : decode cX3_join 95 = .ok (.aload_n 0, 1) := by decide +kernel
theorem dX3_join_96 : decode cX3_join 96 = .ok (.getfield 73, 3) := by decide +kernel
theorem dX3_join_99 : decode cX3_join 99 = .ok (.bipush 40, 2) := by decide +kernel
theorem dX3_join_101 : decode cX3_join 101 = .ok (.if_icmp .ne 7, 3) := by decide +kernel
theorem dX3_join_104 : decode cX3_join 104 = .ok (.iconst 2, 1) := by decide +kernel
theorem dX3_join_105 : decode cX3_join 105 = .ok (.goto 4, 3) := by decide +kernel
theorem dX3_join_108 : decode cX3_join 108 = .ok (.iconst 0, 1) := by decide +kernel
theorem dX3_join_109 : decode cX3_join 109 = .ok (.putfield 59, 3) := by decide +kernel
theorem dX3_join_112 : decode cX3_join 112 = .ok (.aload_n 0, 1) := by decide +kernel
theorem dX3_join_113 : decode cX3_join 113 = .ok (.getfield 59, 3) := by decide +kernel
theorem dX3_join_116 : decode cX3_join 116 = .ok (.ifCond .le 7, 3) := by decide +kernel
theorem dX3_join_119 : decode cX3_join 119 = .ok (.iconst 0, 1) := by decide +kernel
theorem dX3_join_120 : decode cX3_join 120 = .ok (.goto 20, 3) := by decide +kernel
theorem dX3_join_123 : decode cX3_join 123 = .ok (.aload_n 0, 1) := by decide +kernel
theorem dX3_join_124 : decode cX3_join 124 = .ok (.iconst 2, 1) := by decide +kernel
theorem dX3_join_125 : decode cX3_join 125 = .ok (.iload_n 1, 1) := by decide +kernel
theorem dX3_join_126 : decode cX3_join 126 = .ok (.imul, 1) := by decide +kernel
theorem dX3_join_127 : decode cX3_join 127 = .ok (.iload_n 2, 1) := by decide +kernel
theorem dX3_join_128 : decode cX3_join 128 = .ok (.iadd, 1) := by decide +kernel
theorem dX3_join_129 : decode cX3_join 129 = .ok (.iconst 2, 1) := by decide +kernel
theorem dX3_join_130 : decode cX3_join 130 = .ok (.iload_n 3, 1) := by decide +kernel
theorem dX3_join_131 : decode cX3_join 131 = .ok (.imul, 1) := by decide +kernel
theorem dX3_join_132 : decode cX3_join 132 = .ok (.iload 4, 2) := by decide +kernel
theorem dX3_join_134 : decode cX3_join 134 = .ok (.iadd, 1) := by decide +kernel
theorem dX3_join_135 : decode cX3_join 135 = .ok (.iload 5, 2) := by decide +kernel
theorem dX3_join_137 : decode cX3_join 137 = .ok (.invokevirtual 80, 3) := by decide +kernel
theorem dX3_join_140 : decode cX3_join 140 = .ok (.ireturn, 1) := by decide +kernel
set_option maxRecDepth 20000 in
theorem ggX3_lift_X3_isPiece : GoodIn wsX3_lift wsX3_isPiece := goodIn_r _ [8, 9, 10, 11, 7, 12, 21, 22, 23, 24, 25, 26, 27, 28, 29, 30, 31, 32, 33, 34, 35, 36, 37, 38, 39, 40, 41, 42, 43, 44] (by decide +kernel) (by decide +kernel)
set_option maxRecDepth 20000 in
theorem gX3_lift_X3_isPiece : GoodIn wsX3_lift (wsV RX3 76 RX3 yX3_isPiece wsX3_isPiece) := goodIn_app (goodIn_of _ (by decide +kernel)) ggX3_lift_X3_isPiece
set_option maxRecDepth 20000 in
theorem ggX3_lift_X3_in : GoodIn wsX3_lift wsX3_in := goodIn_r _ [12] (by decide +kernel) (by decide +kernel)
set_option maxRecDepth 20000 in
theorem gX3_lift_X3_in : GoodIn wsX3_lift (va_wsS RX3 66 yX3_in wsX3_in) := goodIn_app (goodIn_of _ (by decide +kernel)) ggX3_lift_X3_in
set_option maxRecDepth 20000 in
theorem ggX3_lift_X3_link : GoodIn wsX3_lift wsX3_link := goodIn_r _ [16, 17, 2, 18, 19, 20, 21, 22, 23, 24, 25, 26, 27, 28, 29, 30, 31, 32, 33, 34, 35, 36, 37, 38, 39, 40, 41, 42, 43, 44] (by decide +kernel) (by decide +kernel)
set_option maxRecDepth 20000 in
theorem gX3_lift_X3_link : GoodIn wsX3_lift (wsV RX3 80 RX3 yX3_link wsX3_link) := goodIn_app (goodIn_of _ (by decide +kernel)) ggX3_lift_X3_link
theorem dX3_lift_0 : decode cX3_lift 0 = .ok (.aload_n 0, 1) := by decide +kernel
theorem dX3_lift_1 : decode cX3_lift 1 = .ok (.iload_n 1, 1) := by decide +kernel
theorem dX3_lift_2 : decode cX3_lift 2 = .ok (.invokevirtual 76, 3) := by decide +kernel
theorem dX3_lift_5 : decode cX3_lift 5 = .ok (.ifCond .eq 25, 3) := by decide +kernel
theorem dX3_lift_8 : decode cX3_lift 8 = .ok (.aload_n 0, 1) := by decide +kernel
theorem dX3_lift_9 : decode cX3_lift 9 = .ok (.iload_n 2, 1) := by decide +kernel
theorem dX3_lift_10 : decode cX3_lift 10 = .ok (.invokevirtual 76, 3) := by decide +kernel
theorem dX3_lift_13 : decode cX3_lift 13 = .ok (.ifCond .eq 17, 3) := by decide +kernel
theorem dX3_lift_16 : decode cX3_lift 16 = .ok (.iload_n 3, 1) := by decide +kernel
theorem dX3_lift_17 : decode cX3_lift 17 = .ok (.iconst 0, 1) := by decide +kernel
theorem dX3_lift_18 : decode cX3_lift 18 = .ok (.bipush 100, 2) := by decide +kernel
theorem dX3_lift_20 : decode cX3_lift 20 = .ok (.invokestatic 66, 3) := by decide +kernel
theorem dX3_lift_23 : decode cX3_lift 23 = .ok (.ifCond .eq 7, 3) := by decide +kernel
theorem dX3_lift_26 : decode cX3_lift 26 = .ok (.iconst 1, 1) := by decide +kernel
theorem dX3_lift_27 : decode cX3_lift 27 = .ok (.goto 4, 3) := by decide +kernel
theorem dX3_lift_30 : decode cX3_lift 30 = .ok (.iconst 0, 1) := by decide +kernel
theorem dX3_lift_31 : decode cX3_lift 31 = .ok (.istore 4, 2) := by decide +kernel
theorem dX3_lift_33 : decode cX3_lift 33 = .ok (.iload 4, 2) := by decide +kernel
theorem dX3_lift_35 : decode cX3_lift 35 = .ok (.ifCond .eq 25, 3) := by decide +kernel
theorem dX3_lift_38 : decode cX3_lift 38 = .ok (.aload_n 0, 1) := by decide +kernel
theorem dX3_lift_39 : decode cX3_lift 39 = .ok (.getfield 7, 3) := by decide +kernel
theorem dX3_lift_42 : decode cX3_lift 42 = .ok (.iload_n 1, 1) := by decide +kernel
end
section
theorem dX3_lift_43 : decode cX3_lift 43 = .ok (.iaload, 1) := by decide +kernel
theorem dX3_lift_44 : decode cX3_lift 44 = .ok (.aload_n 0, 1) := by decide +kernel
theorem dX3_lift_45 : decode cX3_lift 45 = .ok (.getfield 7, 3) := by decide +kernel
theorem dX3_lift_48 : decode cX3_lift 48 = .ok (.iload_n 2, 1) := by decide +kernel
theorem dX3_lift_49 : decode cX3_lift 49 = .ok (.iaload, 1) := by decide +kernel
theorem dX3_lift_50 : decode cX3_lift 50 = .ok (.if_icmp .eq 7, 3) := by decide +kernel
theorem dX3_lift_53 : decode cX3_lift 53 = .ok (.iconst 1, 1) := by decide +kernel
theorem dX3_lift_54 : decode cX3_lift 54 = .ok (.goto 4, 3) := by decide +kernel
theorem dX3_lift_57 : decode cX3_lift 57 = .ok (.iconst 0, 1) := by decide +kernel
theorem dX3_lift_58 : decode cX3_lift 58 = .ok (.istore 4, 2) := by decide +kernel
theorem dX3_lift_60 : decode cX3_lift 60 = .ok (.aload_n 0, 1) := by decide +kernel
theorem dX3_lift_61 : decode cX3_lift 61 = .ok (.iload 4, 2) := by decide +kernel
theorem dX3_lift_63 : decode cX3_lift 63 = .ok (.ifCond .ne 7, 3) := by decide +kernel
theorem dX3_lift_66 : decode cX3_lift 66 = .ok (.iconst 1, 1) := by decide +kernel
theorem dX3_lift_67 : decode cX3_lift 67 = .ok (.goto 17, 3) := by decide +kernel
theorem dX3_lift_70 : decode cX3_lift 70 = .ok (.aload_n 0, 1) := by decide +kernel
theorem dX3_lift_71 : decode cX3_lift 71 = .ok (.getfield 73, 3) := by decide +kernel
theorem dX3_lift_74 : decode cX3_lift 74 = .ok (.bipush 40, 2) := by decide +kernel
theorem dX3_lift_76 : decode cX3_lift 76 = .ok (.if_icmp .ne 7, 3) := by decide +kernel
theorem dX3_lift_79 : decode cX3_lift 79 = .ok (.iconst 2, 1) := by decide +kernel
theorem dX3_lift_80 : decode cX3_lift 80 = .ok (.goto 4, 3) := by decide +kernel
theorem dX3_lift_83 : decode cX3_lift 83 = .ok (.iconst 0, 1) := by decide +kernel
theorem dX3_lift_84 : decode cX3_lift 84 = .ok (.putfield 59, 3) := by decide +kernel
theorem dX3_lift_87 : decode cX3_lift 87 = .ok (.aload_n 0, 1) := by decide +kernel
theorem dX3_lift_88 : decode cX3_lift 88 = .ok (.getfield 59, 3) := by decide +kernel
theorem dX3_lift_91 : decode cX3_lift 91 = .ok (.ifCond .le 7, 3) := by decide +kernel
theorem dX3_lift_94 : decode cX3_lift 94 = .ok (.iconst 0, 1) := by decide +kernel
theorem dX3_lift_95 : decode cX3_lift 95 = .ok (.goto 18, 3) := by decide +kernel
theorem dX3_lift_98 : decode cX3_lift 98 = .ok (.aload_n 0, 1) := by decide +kernel
theorem dX3_lift_99 : decode cX3_lift 99 = .ok (.iconst 2, 1) := by decide +kernel
theorem dX3_lift_100 : decode cX3_lift 100 = .ok (.iload_n 1, 1) := by decide +kernel
theorem dX3_lift_101 : decode cX3_lift 101 = .ok (.imul, 1) := by decide +kernel
theorem dX3_lift_102 : decode cX3_lift 102 = .ok (.iconst 1, 1) := by decide +kernel
theorem dX3_lift_103 : decode cX3_lift 103 = .ok (.iadd, 1) := by decide +kernel
theorem dX3_lift_104 : decode cX3_lift 104 = .ok (.iconst 2, 1) := by decide +kernel
theorem dX3_lift_105 : decode cX3_lift 105 = .ok (.iload_n 2, 1) := by decide +kernel
theorem dX3_lift_106 : decode cX3_lift 106 = .ok (.imul, 1) := by decide +kernel
theorem dX3_lift_107 : decode cX3_lift 107 = .ok (.iconst 1, 1) := by decide +kernel
theorem dX3_lift_108 : decode cX3_lift 108 = .ok (.iadd, 1) := by decide +kernel
theorem dX3_lift_109 : decode cX3_lift 109 = .ok (.iload_n 3, 1) := by decide +kernel
theorem dX3_lift_110 : decode cX3_lift 110 = .ok (.invokevirtual 80, 3) := by decide +kernel
theorem dX3_lift_113 : decode cX3_lift 113 = .ok (.ireturn, 1) := by decide +kernel
theorem dX3_bits_0 : decode cX3_bits 0 = .ok (.iconst 0, 1) := by decide +kernel
theorem dX3_bits_1 : decode cX3_bits 1 = .ok (.istore_n 1, 1) := by decide +kernel
theorem dX3_bits_2 : decode cX3_bits 2 = .ok (.iconst 0, 1) := by decide +kernel
theorem dX3_bits_3 : decode cX3_bits 3 = .ok (.istore_n 2, 1) := by decide +kernel
theorem dX3_bits_4 : decode cX3_bits 4 = .ok (.iload_n 2, 1) := by decide +kernel
theorem dX3_bits_5 : decode cX3_bits 5 = .ok (.bipush 24, 2) := by decide +kernel
theorem dX3_bits_7 : decode cX3_bits 7 = .ok (.if_icmp .ge 17, 3) := by decide +kernel
theorem dX3_bits_10 : decode cX3_bits 10 = .ok (.iload_n 1, 1) := by decide +kernel
theorem dX3_bits_11 : decode cX3_bits 11 = .ok (.iload_n 0, 1) := by decide +kernel
theorem dX3_bits_12 : decode cX3_bits 12 = .ok (.iload_n 2, 1) := by decide +kernel
theorem dX3_bits_13 : decode cX3_bits 13 = .ok (.ishr, 1) := by decide +kernel
theorem dX3_bits_14 : decode cX3_bits 14 = .ok (.iconst 1, 1) := by decide +kernel
theorem dX3_bits_15 : decode cX3_bits 15 = .ok (.iand, 1) := by decide +kernel
theorem dX3_bits_16 : decode cX3_bits 16 = .ok (.iadd, 1) := by decide +kernel
theorem dX3_bits_17 : decode cX3_bits 17 = .ok (.istore_n 1, 1) := by decide +kernel
theorem dX3_bits_18 : decode cX3_bits 18 = .ok (.iinc 2 1, 3) := by decide +kernel
theorem dX3_bits_21 : decode cX3_bits 21 = .ok (.goto (-17), 3) := by decide +kernel
theorem dX3_bits_24 : decode cX3_bits 24 = .ok (.iload_n 1, 1) := by decide +kernel
theorem dX3_bits_25 : decode cX3_bits 25 = .ok (.ireturn, 1) := by decide +kernel
theorem dX3_with_0 : decode cX3_with 0 = .ok (.iload_n 2, 1) := by decide +kernel
theorem dX3_with_1 : decode cX3_with 1 = .ok (.ifCond .eq 11, 3) := by decide +kernel
theorem dX3_with_4 : decode cX3_with 4 = .ok (.iload_n 0, 1) := by decide +kernel
theorem dX3_with_5 : decode cX3_with 5 = .ok (.iconst 1, 1) := by decide +kernel
theorem dX3_with_6 : decode cX3_with 6 = .ok (.iload_n 1, 1) := by decide +kernel
theorem dX3_with_7 : decode cX3_with 7 = .ok (.ishl, 1) := by decide +kernel
theorem dX3_with_8 : decode cX3_with 8 = .ok (.ior, 1) := by decide +kernel
theorem dX3_with_9 : decode cX3_with 9 = .ok (.goto 10, 3) := by decide +kernel
theorem dX3_with_12 : decode cX3_with 12 = .ok (.iload_n 0, 1) := by decide +kernel
theorem dX3_with_13 : decode cX3_with 13 = .ok (.iconst 1, 1) := by decide +kernel
theorem dX3_with_14 : decode cX3_with 14 = .ok (.iload_n 1, 1) := by decide +kernel
theorem dX3_with_15 : decode cX3_with 15 = .ok (.ishl, 1) := by decide +kernel
theorem dX3_with_16 : decode cX3_with 16 = .ok (.iconst (-1), 1) := by decide +kernel
theorem dX3_with_17 : decode cX3_with 17 = .ok (.ixor, 1) := by decide +kernel
theorem dX3_with_18 : decode cX3_with 18 = .ok (.iand, 1) := by decide +kernel
theorem dX3_with_19 : decode cX3_with 19 = .ok (.ireturn, 1) := by decide +kernel
set_option maxRecDepth 20000 in
theorem ggX3_turn_X3_in : GoodIn wsX3_turn wsX3_in := goodIn_r _ [8] (by decide +kernel) (by decide +kernel)
set_option maxRecDepth 20000 in
theorem gX3_turn_X3_in : GoodIn wsX3_turn (va_wsS RX3 66 yX3_in wsX3_in) := goodIn_app (goodIn_of _ (by decide +kernel)) ggX3_turn_X3_in
set_option maxRecDepth 20000 in
theorem ggX3_turn_X3_with : GoodIn wsX3_turn wsX3_with := goodIn_r _ [11] (by decide +kernel) (by decide +kernel)
set_option maxRecDepth 20000 in
theorem gX3_turn_X3_with : GoodIn wsX3_turn (va_wsS RX3 84 yX3_with wsX3_with) := goodIn_app (goodIn_of _ (by decide +kernel)) ggX3_turn_X3_with
set_option maxRecDepth 20000 in
theorem ggX3_turn_X3_bits : GoodIn wsX3_turn wsX3_bits := goodIn_r _ [14] (by decide +kernel) (by decide +kernel)
set_option maxRecDepth 20000 in
theorem gX3_turn_X3_bits : GoodIn wsX3_turn (va_wsS RX3 88 yX3_bits wsX3_bits) := goodIn_app (goodIn_of _ (by decide +kernel)) ggX3_turn_X3_bits
theorem dX3_turn_0 : decode cX3_turn 0 = .ok (.aload_n 0, 1) := by decide +kernel
theorem dX3_turn_1 : decode cX3_turn 1 = .ok (.iload_n 1, 1) := by decide +kernel
theorem dX3_turn_2 : decode cX3_turn 2 = .ok (.iconst 0, 1) := by decide +kernel
theorem dX3_turn_3 : decode cX3_turn 3 = .ok (.aload_n 0, 1) := by decide +kernel
theorem dX3_turn_4 : decode cX3_turn 4 = .ok (.getfield 73, 3) := by decide +kernel
theorem dX3_turn_7 : decode cX3_turn 7 = .ok (.iconst 1, 1) := by decide +kernel
theorem dX3_turn_8 : decode cX3_turn 8 = .ok (.isub, 1) := by decide +kernel
theorem dX3_turn_9 : decode cX3_turn 9 = .ok (.invokestatic 66, 3) := by decide +kernel
theorem dX3_turn_12 : decode cX3_turn 12 = .ok (.ifCond .eq 12, 3) := by decide +kernel
theorem dX3_turn_15 : decode cX3_turn 15 = .ok (.iload_n 2, 1) := by decide +kernel
theorem dX3_turn_16 : decode cX3_turn 16 = .ok (.iconst 0, 1) := by decide +kernel
theorem dX3_turn_17 : decode cX3_turn 17 = .ok (.iconst 1, 1) := by decide +kernel
theorem dX3_turn_18 : decode cX3_turn 18 = .ok (.invokestatic 66, 3) := by decide +kernel
theorem dX3_turn_21 : decode cX3_turn 21 = .ok (.ifCond .ne 7, 3) := by decide +kernel
theorem dX3_turn_24 : decode cX3_turn 24 = .ok (.iconst 1, 1) := by decide +kernel
theorem dX3_turn_25 : decode cX3_turn 25 = .ok (.goto 4, 3) := by decide +kernel
theorem dX3_turn_28 : decode cX3_turn 28 = .ok (.iconst 0, 1) := by decide +kernel
theorem dX3_turn_29 : decode cX3_turn 29 = .ok (.putfield 59, 3) := by decide +kernel
theorem dX3_turn_32 : decode cX3_turn 32 = .ok (.aload_n 0, 1) := by decide +kernel
theorem dX3_turn_33 : decode cX3_turn 33 = .ok (.getfield 59, 3) := by decide +kernel
theorem dX3_turn_36 : decode cX3_turn 36 = .ok (.ifCond .le 5, 3) := by decide +kernel
theorem dX3_turn_39 : decode cX3_turn 39 = .ok (.iconst 0, 1) := by decide +kernel
theorem dX3_turn_40 : decode cX3_turn 40 = .ok (.ireturn, 1) := by decide +kernel
theorem dX3_turn_41 : decode cX3_turn 41 = .ok (.aload_n 0, 1) := by decide +kernel
theorem dX3_turn_42 : decode cX3_turn 42 = .ok (.getfield 38, 3) := by decide +kernel
theorem dX3_turn_45 : decode cX3_turn 45 = .ok (.iload_n 1, 1) := by decide +kernel
theorem dX3_turn_46 : decode cX3_turn 46 = .ok (.aload_n 0, 1) := by decide +kernel
theorem dX3_turn_47 : decode cX3_turn 47 = .ok (.getfield 38, 3) := by decide +kernel
theorem dX3_turn_50 : decode cX3_turn 50 = .ok (.iload_n 1, 1) := by decide +kernel
theorem dX3_turn_51 : decode cX3_turn 51 = .ok (.iaload, 1) := by decide +kernel
theorem dX3_turn_52 : decode cX3_turn 52 = .ok (.iload_n 2, 1) := by decide +kernel
theorem dX3_turn_53 : decode cX3_turn 53 = .ok (.iload_n 3, 1) := by decide +kernel
theorem dX3_turn_54 : decode cX3_turn 54 = .ok (.invokestatic 84, 3) := by decide +kernel
theorem dX3_turn_57 : decode cX3_turn 57 = .ok (.iastore, 1) := by decide +kernel
theorem dX3_turn_58 : decode cX3_turn 58 = .ok (.aload_n 0, 1) := by decide +kernel
theorem dX3_turn_59 : decode cX3_turn 59 = .ok (.dup, 1) := by decide +kernel
theorem dX3_turn_60 : decode cX3_turn 60 = .ok (.getfield 70, 3) := by decide +kernel
theorem dX3_turn_63 : decode cX3_turn 63 = .ok (.iconst 1, 1) := by decide +kernel
theorem dX3_turn_64 : decode cX3_turn 64 = .ok (.iadd, 1) := by decide +kernel
theorem dX3_turn_65 : decode cX3_turn 65 = .ok (.putfield 70, 3) := by decide +kernel
theorem dX3_turn_68 : decode cX3_turn 68 = .ok (.aload_n 0, 1) := by decide +kernel
theorem dX3_turn_69 : decode cX3_turn 69 = .ok (.getfield 38, 3) := by decide +kernel
theorem dX3_turn_72 : decode cX3_turn 72 = .ok (.iload_n 1, 1) := by decide +kernel
theorem dX3_turn_73 : decode cX3_turn 73 = .ok (.iaload, 1) := by decide +kernel
theorem dX3_turn_74 : decode cX3_turn 74 = .ok (.invokestatic 88, 3) := by decide +kernel
theorem dX3_turn_77 : decode cX3_turn 77 = .ok (.ireturn, 1) := by decide +kernel
set_option maxRecDepth 20000 in
theorem ggX3_width_X3_isPiece : GoodIn wsX3_width wsX3_isPiece := goodIn_r _ [8, 9, 10, 11, 7, 12, 13, 14, 15, 16, 17, 18, 19, 20, 21, 22, 23, 24, 25, 26, 27, 28, 29, 30, 31, 32, 33, 34, 35, 36] (by decide +kernel) (by decide +kernel)
set_option maxRecDepth 20000 in
theorem gX3_width_X3_isPiece : GoodIn wsX3_width (wsV RX3 76 RX3 yX3_isPiece wsX3_isPiece) := goodIn_app (goodIn_of _ (by decide +kernel)) ggX3_width_X3_isPiece
set_option maxRecDepth 20000 in
theorem ggX3_width_X3_in : GoodIn wsX3_width wsX3_in := goodIn_r _ [12] (by decide +kernel) (by decide +kernel)
set_option maxRecDepth 20000 in
theorem gX3_width_X3_in : GoodIn wsX3_width (va_wsS RX3 66 yX3_in wsX3_in) := goodIn_app (goodIn_of _ (by decide +kernel)) ggX3_width_X3_in
theorem dX3_width_0 : decode cX3_width 0 = .ok (.aload_n 0, 1) := by decide +kernel
theorem dX3_width_1 : decode cX3_width 1 = .ok (.aload_n 0, 1) := by decide +kernel
theorem dX3_width_2 : decode cX3_width 2 = .ok (.iload_n 1, 1) := by decide +kernel
theorem dX3_width_3 : decode cX3_width 3 = .ok (.invokevirtual 76, 3) := by decide +kernel
theorem dX3_width_6 : decode cX3_width 6 = .ok (.ifCond .eq 14, 3) := by decide +kernel
theorem dX3_width_9 : decode cX3_width 9 = .ok (.iload_n 2, 1) := by decide +kernel
theorem dX3_width_10 : decode cX3_width 10 = .ok (.iconst 1, 1) := by decide +kernel
theorem dX3_width_11 : decode cX3_width 11 = .ok (.sipush 500, 3) := by decide +kernel
theorem dX3_width_14 : decode cX3_width 14 = .ok (.invokestatic 66, 3) := by decide +kernel
theorem dX3_width_17 : decode cX3_width 17 = .ok (.ifCond .ne 7, 3) := by decide +kernel
theorem dX3_width_20 : decode cX3_width 20 = .ok (.iconst 1, 1) := by decide +kernel
theorem dX3_width_21 : decode cX3_width 21 = .ok (.goto 4, 3) := by decide +kernel
theorem dX3_width_24 : decode cX3_width 24 = .ok (.iconst 0, 1) := by decide +kernel
theorem dX3_width_25 : decode cX3_width 25 = .ok (.putfield 59, 3) := by decide +kernel
theorem dX3_width_28 : decode cX3_width 28 = .ok (.aload_n 0, 1) := by decide +kernel
theorem dX3_width_29 : decode cX3_width 29 = .ok (.getfield 59, 3) := by decide +kernel
theorem dX3_width_32 : decode cX3_width 32 = .ok (.ifCond .le 4, 3) := by decide +kernel
theorem dX3_width_35 : decode cX3_width 35 = .ok (.return_, 1) := by decide +kernel
theorem dX3_width_36 : decode cX3_width 36 = .ok (.aload_n 0, 1) := by decide +kernel
theorem dX3_width_37 : decode cX3_width 37 = .ok (.getfield 16, 3) := by decide +kernel
theorem dX3_width_40 : decode cX3_width 40 = .ok (.iload_n 1, 1) := by decide +kernel
theorem dX3_width_41 : decode cX3_width 41 = .ok (.iload_n 2, 1) := by decide +kernel
theorem dX3_width_42 : decode cX3_width 42 = .ok (.iastore, 1) := by decide +kernel
theorem dX3_width_43 : decode cX3_width 43 = .ok (.aload_n 0, 1) := by decide +kernel
theorem dX3_width_44 : decode cX3_width 44 = .ok (.dup, 1) := by decide +kernel
theorem dX3_width_45 : decode cX3_width 45 = .ok (.getfield 70, 3) := by decide +kernel
theorem dX3_width_48 : decode cX3_width 48 = .ok (.iconst 1, 1) := by decide +kernel
theorem dX3_width_49 : decode cX3_width 49 = .ok (.iadd, 1) := by decide +kernel
theorem dX3_width_50 : decode cX3_width 50 = .ok (.putfield 70, 3) := by decide +kernel
theorem dX3_width_53 : decode cX3_width 53 = .ok (.return_, 1) := by decide +kernel
set_option maxRecDepth 20000 in
theorem ggX3_zone_X3_isPiece : GoodIn wsX3_zone wsX3_isPiece := goodIn_r _ [8, 9, 10, 11, 7, 12, 19, 20, 21, 22, 23, 24, 25, 26, 27, 28, 29, 30, 31, 32, 33, 34, 35, 36, 37, 38, 39, 40, 41, 42] (by decide +kernel) (by decide +kernel)
set_option maxRecDepth 20000 in
theorem gX3_zone_X3_isPiece : GoodIn wsX3_zone (wsV RX3 76 RX3 yX3_isPiece wsX3_isPiece) := goodIn_app (goodIn_of _ (by decide +kernel)) ggX3_zone_X3_isPiece
set_option maxRecDepth 20000 in
theorem ggX3_zone_X3_in : GoodIn wsX3_zone wsX3_in := goodIn_r _ [12] (by decide +kernel) (by decide +kernel)
set_option maxRecDepth 20000 in
theorem gX3_zone_X3_in : GoodIn wsX3_zone (va_wsS RX3 66 yX3_in wsX3_in) := goodIn_app (goodIn_of _ (by decide +kernel)) ggX3_zone_X3_in
set_option maxRecDepth 20000 in
theorem ggX3_zone_X3_with : GoodIn wsX3_zone wsX3_with := goodIn_r _ [15] (by decide +kernel) (by decide +kernel)
set_option maxRecDepth 20000 in
theorem gX3_zone_X3_with : GoodIn wsX3_zone (va_wsS RX3 84 yX3_with wsX3_with) := goodIn_app (goodIn_of _ (by decide +kernel)) ggX3_zone_X3_with
set_option maxRecDepth 20000 in
theorem ggX3_zone_X3_bits : GoodIn wsX3_zone wsX3_bits := goodIn_r _ [18] (by decide +kernel) (by decide +kernel)
set_option maxRecDepth 20000 in
theorem gX3_zone_X3_bits : GoodIn wsX3_zone (va_wsS RX3 88 yX3_bits wsX3_bits) := goodIn_app (goodIn_of _ (by decide +kernel)) ggX3_zone_X3_bits
theorem dX3_zone_0 : decode cX3_zone 0 = .ok (.aload_n 0, 1) := by decide +kernel
theorem dX3_zone_1 : decode cX3_zone 1 = .ok (.aload_n 0, 1) := by decide +kernel
theorem dX3_zone_2 : decode cX3_zone 2 = .ok (.iload_n 1, 1) := by decide +kernel
theorem dX3_zone_3 : decode cX3_zone 3 = .ok (.invokevirtual 76, 3) := by decide +kernel
theorem dX3_zone_6 : decode cX3_zone 6 = .ok (.ifCond .eq 13, 3) := by decide +kernel
theorem dX3_zone_9 : decode cX3_zone 9 = .ok (.iload_n 2, 1) := by decide +kernel
theorem dX3_zone_10 : decode cX3_zone 10 = .ok (.iconst 0, 1) := by decide +kernel
theorem dX3_zone_11 : decode cX3_zone 11 = .ok (.bipush 23, 2) := by decide +kernel
theorem dX3_zone_13 : decode cX3_zone 13 = .ok (.invokestatic 66, 3) := by decide +kernel
theorem dX3_zone_16 : decode cX3_zone 16 = .ok (.ifCond .ne 7, 3) := by decide +kernel
theorem dX3_zone_19 : decode cX3_zone 19 = .ok (.iconst 1, 1) := by decide +kernel
theorem dX3_zone_20 : decode cX3_zone 20 = .ok (.goto 4, 3) := by decide +kernel
theorem dX3_zone_23 : decode cX3_zone 23 = .ok (.iconst 0, 1) := by decide +kernel
theorem dX3_zone_24 : decode cX3_zone 24 = .ok (.putfield 59, 3) := by decide +kernel
theorem dX3_zone_27 : decode cX3_zone 27 = .ok (.aload_n 0, 1) := by decide +kernel
theorem dX3_zone_28 : decode cX3_zone 28 = .ok (.getfield 59, 3) := by decide +kernel
theorem dX3_zone_31 : decode cX3_zone 31 = .ok (.ifCond .le 5, 3) := by decide +kernel
theorem dX3_zone_34 : decode cX3_zone 34 = .ok (.iconst 0, 1) := by decide +kernel
theorem dX3_zone_35 : decode cX3_zone 35 = .ok (.ireturn, 1) := by decide +kernel
theorem dX3_zone_36 : decode cX3_zone 36 = .ok (.aload_n 0, 1) := by decide +kernel
theorem dX3_zone_37 : decode cX3_zone 37 = .ok (.getfield 26, 3) := by decide +kernel
theorem dX3_zone_40 : decode cX3_zone 40 = .ok (.iload_n 1, 1) := by decide +kernel
theorem dX3_zone_41 : decode cX3_zone 41 = .ok (.aload_n 0, 1) := by decide +kernel
theorem dX3_zone_42 : decode cX3_zone 42 = .ok (.getfield 26, 3) := by decide +kernel
theorem dX3_zone_45 : decode cX3_zone 45 = .ok (.iload_n 1, 1) := by decide +kernel
theorem dX3_zone_46 : decode cX3_zone 46 = .ok (.iaload, 1) := by decide +kernel
theorem dX3_zone_47 : decode cX3_zone 47 = .ok (.iload_n 2, 1) := by decide +kernel
theorem dX3_zone_48 : decode cX3_zone 48 = .ok (.iload_n 3, 1) := by decide +kernel
theorem dX3_zone_49 : decode cX3_zone 49 = .ok (.invokestatic 84, 3) := by decide +kernel
theorem dX3_zone_52 : decode cX3_zone 52 = .ok (.iastore, 1) := by decide +kernel
theorem dX3_zone_53 : decode cX3_zone 53 = .ok (.aload_n 0, 1) := by decide +kernel
theorem dX3_zone_54 : decode cX3_zone 54 = .ok (.dup, 1) := by decide +kernel
theorem dX3_zone_55 : decode cX3_zone 55 = .ok (.getfield 70, 3) := by decide +kernel
theorem dX3_zone_58 : decode cX3_zone 58 = .ok (.iconst 1, 1) := by decide +kernel
theorem dX3_zone_59 : decode cX3_zone 59 = .ok (.iadd, 1) := by decide +kernel
theorem dX3_zone_60 : decode cX3_zone 60 = .ok (.putfield 70, 3) := by decide +kernel
theorem dX3_zone_63 : decode cX3_zone 63 = .ok (.aload_n 0, 1) := by decide +kernel
theorem dX3_zone_64 : decode cX3_zone 64 = .ok (.getfield 26, 3) := by decide +kernel
theorem dX3_zone_67 : decode cX3_zone 67 = .ok (.iload_n 1, 1) := by decide +kernel
theorem dX3_zone_68 : decode cX3_zone 68 = .ok (.iaload, 1) := by decide +kernel
theorem dX3_zone_69 : decode cX3_zone 69 = .ok (.invokestatic 88, 3) := by decide +kernel
theorem dX3_zone_72 : decode cX3_zone 72 = .ok (.ireturn, 1) := by decide +kernel
set_option maxRecDepth 20000 in
theorem ggX3_closed_X3_isPiece : GoodIn wsX3_closed wsX3_isPiece := goodIn_r _ [9, 4, 10, 11, 8, 12, 13, 14, 15, 16, 17, 18, 19, 20, 21, 22, 23, 24, 25, 26, 27, 28, 29, 30, 31, 32, 33, 34, 35, 36] (by decide +kernel) (by decide +kernel)
set_option maxRecDepth 20000 in
theorem gX3_closed_X3_isPiece : GoodIn wsX3_closed (wsV RX3 76 RX3 yX3_isPiece wsX3_isPiece) := goodIn_app (goodIn_of _ (by decide +kernel)) ggX3_closed_X3_isPiece
theorem dX3_closed_0 : decode cX3_closed 0 = .ok (.aload_n 0, 1) := by decide +kernel
theorem dX3_closed_1 : decode cX3_closed 1 = .ok (.aload_n 0, 1) := by decide +kernel
theorem dX3_closed_2 : decode cX3_closed 2 = .ok (.iload_n 1, 1) := by decide +kernel
theorem dX3_closed_3 : decode cX3_closed 3 = .ok (.invokevirtual 76, 3) := by decide +kernel
theorem dX3_closed_6 : decode cX3_closed 6 = .ok (.ifCond .eq 7, 3) := by decide +kernel
theorem dX3_closed_9 : decode cX3_closed 9 = .ok (.iconst 0, 1) := by decide +kernel
theorem dX3_closed_10 : decode cX3_closed 10 = .ok (.goto 4, 3) := by decide +kernel
theorem dX3_closed_13 : decode cX3_closed 13 = .ok (.iconst 1, 1) := by decide +kernel
theorem dX3_closed_14 : decode cX3_closed 14 = .ok (.putfield 59, 3) := by decide +kernel
theorem dX3_closed_17 : decode cX3_closed 17 = .ok (.aload_n 0, 1) := by decide +kernel
theorem dX3_closed_18 : decode cX3_closed 18 = .ok (.getfield 59, 3) := by decide +kernel
theorem dX3_closed_21 : decode cX3_closed 21 = .ok (.ifCond .le 5, 3) := by decide +kernel
theorem dX3_closed_24 : decode cX3_closed 24 = .ok (.iconst 0, 1) := by decide +kernel
theorem dX3_closed_25 : decode cX3_closed 25 = .ok (.ireturn, 1) := by decide +kernel
theorem dX3_closed_26 : decode cX3_closed 26 = .ok (.aload_n 0, 1) := by decide +kernel
theorem dX3_closed_27 : decode cX3_closed 27 = .ok (.getfield 23, 3) := by decide +kernel
theorem dX3_closed_30 : decode cX3_closed 30 = .ok (.iload_n 1, 1) := by decide +kernel
theorem dX3_closed_31 : decode cX3_closed 31 = .ok (.iload_n 2, 1) := by decide +kernel
theorem dX3_closed_32 : decode cX3_closed 32 = .ok (.bastore, 1) := by decide +kernel
theorem dX3_closed_33 : decode cX3_closed 33 = .ok (.aload_n 0, 1) := by decide +kernel
theorem dX3_closed_34 : decode cX3_closed 34 = .ok (.dup, 1) := by decide +kernel
theorem dX3_closed_35 : decode cX3_closed 35 = .ok (.getfield 70, 3) := by decide +kernel
theorem dX3_closed_38 : decode cX3_closed 38 = .ok (.iconst 1, 1) := by decide +kernel
theorem dX3_closed_39 : decode cX3_closed 39 = .ok (.iadd, 1) := by decide +kernel
theorem dX3_closed_40 : decode cX3_closed 40 = .ok (.putfield 70, 3) := by decide +kernel
theorem dX3_closed_43 : decode cX3_closed 43 = .ok (.iconst 0, 1) := by decide +kernel
theorem dX3_closed_44 : decode cX3_closed 44 = .ok (.istore_n 3, 1) := by decide +kernel
theorem dX3_closed_45 : decode cX3_closed 45 = .ok (.iconst 0, 1) := by decide +kernel
theorem dX3_closed_46 : decode cX3_closed 46 = .ok (.istore 4, 2) := by decide +kernel
theorem dX3_closed_48 : decode cX3_closed 48 = .ok (.iload 4, 2) := by decide +kernel
theorem dX3_closed_50 : decode cX3_closed 50 = .ok (.aload_n 0, 1) := by decide +kernel
theorem dX3_closed_51 : decode cX3_closed 51 = .ok (.getfield 63, 3) := by decide +kernel
theorem dX3_closed_54 : decode cX3_closed 54 = .ok (.if_icmp .ge 27, 3) := by decide +kernel
theorem dX3_closed_57 : decode cX3_closed 57 = .ok (.iload_n 3, 1) := by decide +kernel
theorem dX3_closed_58 : decode cX3_closed 58 = .ok (.aload_n 0, 1) := by decide +kernel
theorem dX3_closed_59 : decode cX3_closed 59 = .ok (.getfield 23, 3) := by decide +kernel
theorem dX3_closed_62 : decode cX3_closed 62 = .ok (.iload 4, 2) := by decide +kernel
theorem dX3_closed_64 : decode cX3_closed 64 = .ok (.baload, 1) := by decide +kernel
theorem dX3_closed_65 : decode cX3_closed 65 = .ok (.ifCond .eq 7, 3) := by decide +kernel
theorem dX3_closed_68 : decode cX3_closed 68 = .ok (.iconst 1, 1) := by decide +kernel
theorem dX3_closed_69 : decode cX3_closed 69 = .ok (.goto 4, 3) := by decide +kernel
theorem dX3_closed_72 : decode cX3_closed 72 = .ok (.iconst 0, 1) := by decide +kernel
theorem dX3_closed_73 : decode cX3_closed 73 = .ok (.iadd, 1) := by decide +kernel
theorem dX3_closed_74 : decode cX3_closed 74 = .ok (.istore_n 3, 1) := by decide +kernel
theorem dX3_closed_75 : decode cX3_closed 75 = .ok (.iinc 4 1, 3) := by decide +kernel
theorem dX3_closed_78 : decode cX3_closed 78 = .ok (.goto (-30), 3) := by decide +kernel
theorem dX3_closed_81 : decode cX3_closed 81 = .ok (.iload_n 3, 1) := by decide +kernel
theorem dX3_closed_82 : decode cX3_closed 82 = .ok (.ireturn, 1) := by decide +kernel
set_option maxRecDepth 20000 in
theorem ggX3_robot_X3_in : GoodIn wsX3_robot wsX3_in := goodIn_r _ [10] (by decide +kernel) (by decide +kernel)
set_option maxRecDepth 20000 in
theorem gX3_robot_X3_in : GoodIn wsX3_robot (va_wsS RX3 66 yX3_in wsX3_in) := goodIn_app (goodIn_of _ (by decide +kernel)) ggX3_robot_X3_in
theorem dX3_robot_0 : decode cX3_robot 0 = .ok (.aload_n 0, 1) := by decide +kernel
theorem dX3_robot_1 : decode cX3_robot 1 = .ok (.iload_n 1, 1) := by decide +kernel
theorem dX3_robot_2 : decode cX3_robot 2 = .ok (.iconst 1, 1) := by decide +kernel
theorem dX3_robot_3 : decode cX3_robot 3 = .ok (.sipush 500, 3) := by decide +kernel
theorem dX3_robot_6 : decode cX3_robot 6 = .ok (.invokestatic 66, 3) := by decide +kernel
theorem dX3_robot_9 : decode cX3_robot 9 = .ok (.ifCond .ne 7, 3) := by decide +kernel
theorem dX3_robot_12 : decode cX3_robot 12 = .ok (.iconst 1, 1) := by decide +kernel
theorem dX3_robot_13 : decode cX3_robot 13 = .ok (.goto 17, 3) := by decide +kernel
theorem dX3_robot_16 : decode cX3_robot 16 = .ok (.aload_n 0, 1) := by decide +kernel
theorem dX3_robot_17 : decode cX3_robot 17 = .ok (.getfield 92, 3) := by decide +kernel
theorem dX3_robot_20 : decode cX3_robot 20 = .ok (.bipush 6, 2) := by decide +kernel
theorem dX3_robot_22 : decode cX3_robot 22 = .ok (.if_icmp .ne 7, 3) := by decide +kernel
theorem dX3_robot_25 : decode cX3_robot 25 = .ok (.iconst 2, 1) := by decide +kernel
theorem dX3_robot_26 : decode cX3_robot 26 = .ok (.goto 4, 3) := by decide +kernel
theorem dX3_robot_29 : decode cX3_robot 29 = .ok (.iconst 0, 1) := by decide +kernel
theorem dX3_robot_30 : decode cX3_robot 30 = .ok (.putfield 59, 3) := by decide +kernel
theorem dX3_robot_33 : decode cX3_robot 33 = .ok (.aload_n 0, 1) := by decide +kernel
theorem dX3_robot_34 : decode cX3_robot 34 = .ok (.getfield 59, 3) := by decide +kernel
theorem dX3_robot_37 : decode cX3_robot 37 = .ok (.ifCond .le 5, 3) := by decide +kernel
theorem dX3_robot_40 : decode cX3_robot 40 = .ok (.iconst 0, 1) := by decide +kernel
theorem dX3_robot_41 : decode cX3_robot 41 = .ok (.ireturn, 1) := by decide +kernel
theorem dX3_robot_42 : decode cX3_robot 42 = .ok (.iconst 0, 1) := by decide +kernel
theorem dX3_robot_43 : decode cX3_robot 43 = .ok (.istore_n 2, 1) := by decide +kernel
theorem dX3_robot_44 : decode cX3_robot 44 = .ok (.iconst 0, 1) := by decide +kernel
theorem dX3_robot_45 : decode cX3_robot 45 = .ok (.istore_n 3, 1) := by decide +kernel
theorem dX3_robot_46 : decode cX3_robot 46 = .ok (.iload_n 3, 1) := by decide +kernel
theorem dX3_robot_47 : decode cX3_robot 47 = .ok (.aload_n 0, 1) := by decide +kernel
theorem dX3_robot_48 : decode cX3_robot 48 = .ok (.getfield 63, 3) := by decide +kernel
theorem dX3_robot_51 : decode cX3_robot 51 = .ok (.if_icmp .ge 29, 3) := by decide +kernel
theorem dX3_robot_54 : decode cX3_robot 54 = .ok (.iload_n 2, 1) := by decide +kernel
theorem dX3_robot_55 : decode cX3_robot 55 = .ok (.ifCond .ne 13, 3) := by decide +kernel
theorem dX3_robot_58 : decode cX3_robot 58 = .ok (.aload_n 0, 1) := by decide +kernel
theorem dX3_robot_59 : decode cX3_robot 59 = .ok (.getfield 16, 3) := by decide +kernel
theorem dX3_robot_62 : decode cX3_robot 62 = .ok (.iload_n 3, 1) := by decide +kernel
theorem dX3_robot_63 : decode cX3_robot 63 = .ok (.iaload, 1) := by decide +kernel
theorem dX3_robot_64 : decode cX3_robot 64 = .ok (.iload_n 1, 1) := by decide +kernel
theorem dX3_robot_65 : decode cX3_robot 65 = .ok (.if_icmp .lt 7, 3) := by decide +kernel
theorem dX3_robot_68 : decode cX3_robot 68 = .ok (.iconst 1, 1) := by decide +kernel
theorem dX3_robot_69 : decode cX3_robot 69 = .ok (.goto 4, 3) := by decide +kernel
theorem dX3_robot_72 : decode cX3_robot 72 = .ok (.iconst 0, 1) := by decide +kernel
theorem dX3_robot_73 : decode cX3_robot 73 = .ok (.istore_n 2, 1) := by decide +kernel
theorem dX3_robot_74 : decode cX3_robot 74 = .ok (.iinc 3 1, 3) := by decide +kernel
theorem dX3_robot_77 : decode cX3_robot 77 = .ok (.goto (-31), 3) := by decide +kernel
theorem dX3_robot_80 : decode cX3_robot 80 = .ok (.iload_n 2, 1) := by decide +kernel
theorem dX3_robot_81 : decode cX3_robot 81 = .ok (.ifCond .ne 5, 3) := by decide +kernel
theorem dX3_robot_84 : decode cX3_robot 84 = .ok (.iconst (-1), 1) := by decide +kernel
theorem dX3_robot_85 : decode cX3_robot 85 = .ok (.ireturn, 1) := by decide +kernel
theorem dX3_robot_86 : decode cX3_robot 86 = .ok (.aload_n 0, 1) := by decide +kernel
theorem dX3_robot_87 : decode cX3_robot 87 = .ok (.getfield 41, 3) := by decide +kernel
theorem dX3_robot_90 : decode cX3_robot 90 = .ok (.aload_n 0, 1) := by decide +kernel
theorem dX3_robot_91 : decode cX3_robot 91 = .ok (.getfield 92, 3) := by decide +kernel
theorem dX3_robot_94 : decode cX3_robot 94 = .ok (.iload_n 1, 1) := by decide +kernel
theorem dX3_robot_95 : decode cX3_robot 95 = .ok (.iastore, 1) := by decide +kernel
theorem dX3_robot_96 : decode cX3_robot 96 = .ok (.aload_n 0, 1) := by decide +kernel
theorem dX3_robot_97 : decode cX3_robot 97 = .ok (.dup, 1) := by decide +kernel
theorem dX3_robot_98 : decode cX3_robot 98 = .ok (.getfield 92, 3) := by decide +kernel
theorem dX3_robot_101 : decode cX3_robot 101 = .ok (.iconst 1, 1) := by decide +kernel
theorem dX3_robot_102 : decode cX3_robot 102 = .ok (.iadd, 1) := by decide +kernel
theorem dX3_robot_103 : decode cX3_robot 103 = .ok (.putfield 92, 3) := by decide +kernel
theorem dX3_robot_106 : decode cX3_robot 106 = .ok (.aload_n 0, 1) := by decide +kernel
theorem dX3_robot_107 : decode cX3_robot 107 = .ok (.dup, 1) := by decide +kernel
theorem dX3_robot_108 : decode cX3_robot 108 = .ok (.getfield 70, 3) := by decide +kernel
theorem dX3_robot_111 : decode cX3_robot 111 = .ok (.iconst 1, 1) := by decide +kernel
theorem dX3_robot_112 : decode cX3_robot 112 = .ok (.iadd, 1) := by decide +kernel
theorem dX3_robot_113 : decode cX3_robot 113 = .ok (.putfield 70, 3) := by decide +kernel
theorem dX3_robot_116 : decode cX3_robot 116 = .ok (.aload_n 0, 1) := by decide +kernel
theorem dX3_robot_117 : decode cX3_robot 117 = .ok (.getfield 92, 3) := by decide +kernel
theorem dX3_robot_120 : decode cX3_robot 120 = .ok (.iconst 1, 1) := by decide +kernel
theorem dX3_robot_121 : decode cX3_robot 121 = .ok (.isub, 1) := by decide +kernel
theorem dX3_robot_122 : decode cX3_robot 122 = .ok (.ireturn, 1) := by decide +kernel
theorem dX3_mayEnter_0 : decode cX3_mayEnter 0 = .ok (.iload_n 2, 1) := by decide +kernel
theorem dX3_mayEnter_1 : decode cX3_mayEnter 1 = .ok (.iconst 2, 1) := by decide +kernel
theorem dX3_mayEnter_2 : decode cX3_mayEnter 2 = .ok (.idiv, 1) := by decide +kernel
theorem dX3_mayEnter_3 : decode cX3_mayEnter 3 = .ok (.istore 4, 2) := by decide +kernel
theorem dX3_mayEnter_5 : decode cX3_mayEnter 5 = .ok (.aload_n 0, 1) := by decide +kernel
theorem dX3_mayEnter_6 : decode cX3_mayEnter 6 = .ok (.getfield 23, 3) := by decide +kernel
theorem dX3_mayEnter_9 : decode cX3_mayEnter 9 = .ok (.iload 4, 2) := by decide +kernel
theorem dX3_mayEnter_11 : decode cX3_mayEnter 11 = .ok (.baload, 1) := by decide +kernel
theorem dX3_mayEnter_12 : decode cX3_mayEnter 12 = .ok (.ifCond .ne 53, 3) := by decide +kernel
theorem dX3_mayEnter_15 : decode cX3_mayEnter 15 = .ok (.aload_n 0, 1) := by decide +kernel
theorem dX3_mayEnter_16 : decode cX3_mayEnter 16 = .ok (.getfield 26, 3) := by decide +kernel
theorem dX3_mayEnter_19 : decode cX3_mayEnter 19 = .ok (.iload 4, 2) := by decide +kernel
theorem dX3_mayEnter_21 : decode cX3_mayEnter 21 = .ok (.iaload, 1) := by decide +kernel
theorem dX3_mayEnter_22 : decode cX3_mayEnter 22 = .ok (.iload_n 3, 1) := by decide +kernel
theorem dX3_mayEnter_23 : decode cX3_mayEnter 23 = .ok (.ishr, 1) := by decide +kernel
theorem dX3_mayEnter_24 : decode cX3_mayEnter 24 = .ok (.iconst 1, 1) := by decide +kernel
theorem dX3_mayEnter_25 : decode cX3_mayEnter 25 = .ok (.iand, 1) := by decide +kernel
theorem dX3_mayEnter_26 : decode cX3_mayEnter 26 = .ok (.ifCond .ne 39, 3) := by decide +kernel
theorem dX3_mayEnter_29 : decode cX3_mayEnter 29 = .ok (.aload_n 0, 1) := by decide +kernel
theorem dX3_mayEnter_30 : decode cX3_mayEnter 30 = .ok (.getfield 16, 3) := by decide +kernel
theorem dX3_mayEnter_33 : decode cX3_mayEnter 33 = .ok (.iload 4, 2) := by decide +kernel
theorem dX3_mayEnter_35 : decode cX3_mayEnter 35 = .ok (.iaload, 1) := by decide +kernel
theorem dX3_mayEnter_36 : decode cX3_mayEnter 36 = .ok (.aload_n 0, 1) := by decide +kernel
theorem dX3_mayEnter_37 : decode cX3_mayEnter 37 = .ok (.getfield 41, 3) := by decide +kernel
theorem dX3_mayEnter_40 : decode cX3_mayEnter 40 = .ok (.iload_n 1, 1) := by decide +kernel
theorem dX3_mayEnter_41 : decode cX3_mayEnter 41 = .ok (.iaload, 1) := by decide +kernel
theorem dX3_mayEnter_42 : decode cX3_mayEnter 42 = .ok (.if_icmp .lt 23, 3) := by decide +kernel
theorem dX3_mayEnter_45 : decode cX3_mayEnter 45 = .ok (.iload_n 2, 1) := by decide +kernel
theorem dX3_mayEnter_46 : decode cX3_mayEnter 46 = .ok (.iconst 2, 1) := by decide +kernel
theorem dX3_mayEnter_47 : decode cX3_mayEnter 47 = .ok (.irem, 1) := by decide +kernel
theorem dX3_mayEnter_48 : decode cX3_mayEnter 48 = .ok (.ifCond .eq 13, 3) := by decide +kernel
theorem dX3_mayEnter_51 : decode cX3_mayEnter 51 = .ok (.aload_n 0, 1) := by decide +kernel
theorem dX3_mayEnter_52 : decode cX3_mayEnter 52 = .ok (.getfield 19, 3) := by decide +kernel
theorem dX3_mayEnter_55 : decode cX3_mayEnter 55 = .ok (.iload 4, 2) := by decide +kernel
theorem dX3_mayEnter_57 : decode cX3_mayEnter 57 = .ok (.baload, 1) := by decide +kernel
theorem dX3_mayEnter_58 : decode cX3_mayEnter 58 = .ok (.ifCond .eq 7, 3) := by decide +kernel
theorem dX3_mayEnter_61 : decode cX3_mayEnter 61 = .ok (.iconst 1, 1) := by decide +kernel
theorem dX3_mayEnter_62 : decode cX3_mayEnter 62 = .ok (.goto 4, 3) := by decide +kernel
theorem dX3_mayEnter_65 : decode cX3_mayEnter 65 = .ok (.iconst 0, 1) := by decide +kernel
theorem dX3_mayEnter_66 : decode cX3_mayEnter 66 = .ok (.ireturn, 1) := by decide +kernel
theorem dX3_from_0 : decode cX3_from 0 = .ok (.iload_n 2, 1) := by decide +kernel
theorem dX3_from_1 : decode cX3_from 1 = .ok (.ifCond .ne 12, 3) := by decide +kernel
theorem dX3_from_4 : decode cX3_from 4 = .ok (.aload_n 0, 1) := by decide +kernel
theorem dX3_from_5 : decode cX3_from 5 = .ok (.getfield 29, 3) := by decide +kernel
theorem dX3_from_8 : decode cX3_from 8 = .ok (.iload_n 1, 1) := by decide +kernel
theorem dX3_from_9 : decode cX3_from 9 = .ok (.iaload, 1) := by decide +kernel
theorem dX3_from_10 : decode cX3_from 10 = .ok (.goto 9, 3) := by decide +kernel
theorem dX3_from_13 : decode cX3_from 13 = .ok (.aload_n 0, 1) := by decide +kernel
theorem dX3_from_14 : decode cX3_from 14 = .ok (.getfield 32, 3) := by decide +kernel
theorem dX3_from_17 : decode cX3_from 17 = .ok (.iload_n 1, 1) := by decide +kernel
theorem dX3_from_18 : decode cX3_from 18 = .ok (.iaload, 1) := by decide +kernel
theorem dX3_from_19 : decode cX3_from 19 = .ok (.ireturn, 1) := by decide +kernel
theorem dX3_to_0 : decode cX3_to 0 = .ok (.iload_n 2, 1) := by decide +kernel
theorem dX3_to_1 : decode cX3_to 1 = .ok (.ifCond .ne 12, 3) := by decide +kernel
theorem dX3_to_4 : decode cX3_to 4 = .ok (.aload_n 0, 1) := by decide +kernel
theorem dX3_to_5 : decode cX3_to 5 = .ok (.getfield 32, 3) := by decide +kernel
theorem dX3_to_8 : decode cX3_to 8 = .ok (.iload_n 1, 1) := by decide +kernel
theorem dX3_to_9 : decode cX3_to 9 = .ok (.iaload, 1) := by decide +kernel
theorem dX3_to_10 : decode cX3_to 10 = .ok (.goto 9, 3) := by decide +kernel
theorem dX3_to_13 : decode cX3_to 13 = .ok (.aload_n 0, 1) := by decide +kernel
theorem dX3_to_14 : decode cX3_to 14 = .ok (.getfield 29, 3) := by decide +kernel
theorem dX3_to_17 : decode cX3_to 17 = .ok (.iload_n 1, 1) := by decide +kernel
theorem dX3_to_18 : decode cX3_to 18 = .ok (.iaload, 1) := by decide +kernel
theorem dX3_to_19 : decode cX3_to 19 = .ok (.ireturn, 1) := by decide +kernel
set_option maxRecDepth 20000 in
theorem ggX3_mayGo_X3_to : GoodIn wsX3_mayGo wsX3_to := goodIn_r _ [6, 7, 8, 18, 19, 20, 21, 22, 23, 24, 25, 26, 27, 28, 29, 30, 31, 32, 33, 34, 35, 36, 37, 38, 39, 40, 41] (by decide +kernel) (by decide +kernel)
set_option maxRecDepth 20000 in
theorem gX3_mayGo_X3_to : GoodIn wsX3_mayGo (wsV RX3 95 RX3 yX3_to wsX3_to) := goodIn_app (goodIn_of _ (by decide +kernel)) ggX3_mayGo_X3_to
set_option maxRecDepth 20000 in
theorem ggX3_mayGo_X3_mayEnter : GoodIn wsX3_mayGo wsX3_mayEnter := goodIn_r _ [12, 13, 14, 15, 16, 17, 18, 19, 20, 21, 22, 23, 24, 25, 26, 27, 28, 29, 30, 31, 32, 33, 34, 35, 36, 37, 38, 39, 40, 41] (by decide +kernel) (by decide +kernel)
set_option maxRecDepth 20000 in
theorem gX3_mayGo_X3_mayEnter : GoodIn wsX3_mayGo (wsV RX3 99 RX3 yX3_mayEnter wsX3_mayEnter) := goodIn_app (goodIn_of _ (by decide +kernel)) ggX3_mayGo_X3_mayEnter
theorem dX3_mayGo_0 : decode cX3_mayGo 0 = .ok (.aload_n 0, 1) := by decide +kernel
theorem dX3_mayGo_1 : decode cX3_mayGo 1 = .ok (.getfield 38, 3) := by decide +kernel
theorem dX3_mayGo_4 : decode cX3_mayGo 4 = .ok (.iload_n 2, 1) := by decide +kernel
theorem dX3_mayGo_5 : decode cX3_mayGo 5 = .ok (.iaload, 1) := by decide +kernel
theorem dX3_mayGo_6 : decode cX3_mayGo 6 = .ok (.iload_n 3, 1) := by decide +kernel
theorem dX3_mayGo_7 : decode cX3_mayGo 7 = .ok (.ishr, 1) := by decide +kernel
theorem dX3_mayGo_8 : decode cX3_mayGo 8 = .ok (.iconst 1, 1) := by decide +kernel
theorem dX3_mayGo_9 : decode cX3_mayGo 9 = .ok (.iand, 1) := by decide +kernel
theorem dX3_mayGo_10 : decode cX3_mayGo 10 = .ok (.ifCond .ne 23, 3) := by decide +kernel
theorem dX3_mayGo_13 : decode cX3_mayGo 13 = .ok (.aload_n 0, 1) := by decide +kernel
theorem dX3_mayGo_14 : decode cX3_mayGo 14 = .ok (.iload_n 1, 1) := by decide +kernel
theorem dX3_mayGo_15 : decode cX3_mayGo 15 = .ok (.aload_n 0, 1) := by decide +kernel
theorem dX3_mayGo_16 : decode cX3_mayGo 16 = .ok (.iload_n 2, 1) := by decide +kernel
theorem dX3_mayGo_17 : decode cX3_mayGo 17 = .ok (.iload_n 3, 1) := by decide +kernel
theorem dX3_mayGo_18 : decode cX3_mayGo 18 = .ok (.invokevirtual 95, 3) := by decide +kernel
theorem dX3_mayGo_21 : decode cX3_mayGo 21 = .ok (.iload 4, 2) := by decide +kernel
theorem dX3_mayGo_23 : decode cX3_mayGo 23 = .ok (.invokevirtual 99, 3) := by decide +kernel
theorem dX3_mayGo_26 : decode cX3_mayGo 26 = .ok (.ifCond .eq 7, 3) := by decide +kernel
theorem dX3_mayGo_29 : decode cX3_mayGo 29 = .ok (.iconst 1, 1) := by decide +kernel
theorem dX3_mayGo_30 : decode cX3_mayGo 30 = .ok (.goto 4, 3) := by decide +kernel
theorem dX3_mayGo_33 : decode cX3_mayGo 33 = .ok (.iconst 0, 1) := by decide +kernel
theorem dX3_mayGo_34 : decode cX3_mayGo 34 = .ok (.ireturn, 1) := by decide +kernel
set_option maxRecDepth 20000 in
theorem ggX3_reachAll_X3_lower : GoodIn wsX3_reachAll wsX3_lower := goodIn_r _ [9, 2, 10, 11, 12, 8, 13, 14, 15, 16, 17, 18, 19, 20, 21, 22, 23, 24, 25, 26, 27, 28, 29, 30, 31, 32, 33, 34, 35, 36, 37, 38, 3, 39, 40, 41, 42, 43, 44, 45, 46, 47, 48, 49, 50, 51, 52, 53, 54, 55, 56, 57, 58, 59, 60, 61, 62] (by decide +kernel) (by decide +kernel)
set_option maxRecDepth 20000 in
theorem gX3_reachAll_X3_lower : GoodIn wsX3_reachAll (wsV RX3 102 RX3 yX3_lower wsX3_lower) := goodIn_app (goodIn_of _ (by decide +kernel)) ggX3_reachAll_X3_lower
theorem dX3_reachAll_0 : decode cX3_reachAll 0 = .ok (.iconst 0, 1) := by decide +kernel
theorem dX3_reachAll_1 : decode cX3_reachAll 1 = .ok (.istore 4, 2) := by decide +kernel
theorem dX3_reachAll_3 : decode cX3_reachAll 3 = .ok (.iload 4, 2) := by decide +kernel
theorem dX3_reachAll_5 : decode cX3_reachAll 5 = .ok (.iconst 2, 1) := by decide +kernel
theorem dX3_reachAll_6 : decode cX3_reachAll 6 = .ok (.aload_n 0, 1) := by decide +kernel
theorem dX3_reachAll_7 : decode cX3_reachAll 7 = .ok (.getfield 63, 3) := by decide +kernel
theorem dX3_reachAll_10 : decode cX3_reachAll 10 = .ok (.imul, 1) := by decide +kernel
theorem dX3_reachAll_11 : decode cX3_reachAll 11 = .ok (.if_icmp .ge 17, 3) := by decide +kernel
theorem dX3_reachAll_14 : decode cX3_reachAll 14 = .ok (.aload_n 0, 1) := by decide +kernel
theorem dX3_reachAll_15 : decode cX3_reachAll 15 = .ok (.getfield 50, 3) := by decide +kernel
theorem dX3_reachAll_18 : decode cX3_reachAll 18 = .ok (.iload 4, 2) := by decide +kernel
theorem dX3_reachAll_20 : decode cX3_reachAll 20 = .ok (.iconst (-1), 1) := by decide +kernel
theorem dX3_reachAll_21 : decode cX3_reachAll 21 = .ok (.iastore, 1) := by decide +kernel
theorem dX3_reachAll_22 : decode cX3_reachAll 22 = .ok (.iinc 4 1, 3) := by decide +kernel
theorem dX3_reachAll_25 : decode cX3_reachAll 25 = .ok (.goto (-22), 3) := by decide +kernel
theorem dX3_reachAll_28 : decode cX3_reachAll 28 = .ok (.aload_n 0, 1) := by decide +kernel
theorem dX3_reachAll_29 : decode cX3_reachAll 29 = .ok (.getfield 50, 3) := by decide +kernel
theorem dX3_reachAll_32 : decode cX3_reachAll 32 = .ok (.iconst 2, 1) := by decide +kernel
theorem dX3_reachAll_33 : decode cX3_reachAll 33 = .ok (.iload_n 2, 1) := by decide +kernel
theorem dX3_reachAll_34 : decode cX3_reachAll 34 = .ok (.imul, 1) := by decide +kernel
theorem dX3_reachAll_35 : decode cX3_reachAll 35 = .ok (.iconst 1, 1) := by decide +kernel
theorem dX3_reachAll_36 : decode cX3_reachAll 36 = .ok (.iadd, 1) := by decide +kernel
theorem dX3_reachAll_37 : decode cX3_reachAll 37 = .ok (.iconst 0, 1) := by decide +kernel
theorem dX3_reachAll_38 : decode cX3_reachAll 38 = .ok (.iastore, 1) := by decide +kernel
theorem dX3_reachAll_39 : decode cX3_reachAll 39 = .ok (.aload_n 0, 1) := by decide +kernel
theorem dX3_reachAll_40 : decode cX3_reachAll 40 = .ok (.getfield 19, 3) := by decide +kernel
theorem dX3_reachAll_43 : decode cX3_reachAll 43 = .ok (.iload_n 2, 1) := by decide +kernel
theorem dX3_reachAll_44 : decode cX3_reachAll 44 = .ok (.baload, 1) := by decide +kernel
theorem dX3_reachAll_45 : decode cX3_reachAll 45 = .ok (.ifCond .eq 12, 3) := by decide +kernel
theorem dX3_reachAll_48 : decode cX3_reachAll 48 = .ok (.aload_n 0, 1) := by decide +kernel
theorem dX3_reachAll_49 : decode cX3_reachAll 49 = .ok (.getfield 50, 3) := by decide +kernel
theorem dX3_reachAll_52 : decode cX3_reachAll 52 = .ok (.iconst 2, 1) := by decide +kernel
theorem dX3_reachAll_53 : decode cX3_reachAll 53 = .ok (.iload_n 2, 1) := by decide +kernel
theorem dX3_reachAll_54 : decode cX3_reachAll 54 = .ok (.imul, 1) := by decide +kernel
theorem dX3_reachAll_55 : decode cX3_reachAll 55 = .ok (.iconst 0, 1) := by decide +kernel
theorem dX3_reachAll_56 : decode cX3_reachAll 56 = .ok (.iastore, 1) := by decide +kernel
theorem dX3_reachAll_57 : decode cX3_reachAll 57 = .ok (.iconst 1, 1) := by decide +kernel
theorem dX3_reachAll_58 : decode cX3_reachAll 58 = .ok (.istore 4, 2) := by decide +kernel
theorem dX3_reachAll_60 : decode cX3_reachAll 60 = .ok (.iload 4, 2) := by decide +kernel
theorem dX3_reachAll_62 : decode cX3_reachAll 62 = .ok (.ifCond .eq 67, 3) := by decide +kernel
theorem dX3_reachAll_65 : decode cX3_reachAll 65 = .ok (.iconst 0, 1) := by decide +kernel
theorem dX3_reachAll_66 : decode cX3_reachAll 66 = .ok (.istore 4, 2) := by decide +kernel
theorem dX3_reachAll_68 : decode cX3_reachAll 68 = .ok (.iconst 0, 1) := by decide +kernel
theorem dX3_reachAll_69 : decode cX3_reachAll 69 = .ok (.istore 5, 2) := by decide +kernel
theorem dX3_reachAll_71 : decode cX3_reachAll 71 = .ok (.iload 5, 2) := by decide +kernel
theorem dX3_reachAll_73 : decode cX3_reachAll 73 = .ok (.aload_n 0, 1) := by decide +kernel
theorem dX3_reachAll_74 : decode cX3_reachAll 74 = .ok (.getfield 73, 3) := by decide +kernel
theorem dX3_reachAll_77 : decode cX3_reachAll 77 = .ok (.if_icmp .ge 49, 3) := by decide +kernel
theorem dX3_reachAll_80 : decode cX3_reachAll 80 = .ok (.iconst 0, 1) := by decide +kernel
theorem dX3_reachAll_81 : decode cX3_reachAll 81 = .ok (.istore 6, 2) := by decide +kernel
theorem dX3_reachAll_83 : decode cX3_reachAll 83 = .ok (.iload 6, 2) := by decide +kernel
theorem dX3_reachAll_85 : decode cX3_reachAll 85 = .ok (.iconst 2, 1) := by decide +kernel
theorem dX3_reachAll_86 : decode cX3_reachAll 86 = .ok (.if_icmp .ge 34, 3) := by decide +kernel
theorem dX3_reachAll_89 : decode cX3_reachAll 89 = .ok (.aload_n 0, 1) := by decide +kernel
theorem dX3_reachAll_90 : decode cX3_reachAll 90 = .ok (.iload_n 1, 1) := by decide +kernel
theorem dX3_reachAll_91 : decode cX3_reachAll 91 = .ok (.iload 5, 2) := by decide +kernel
theorem dX3_reachAll_93 : decode cX3_reachAll 93 = .ok (.iload 6, 2) := by decide +kernel
theorem dX3_reachAll_95 : decode cX3_reachAll 95 = .ok (.iload_n 3, 1) := by decide +kernel
theorem dX3_reachAll_96 : decode cX3_reachAll 96 = .ok (.invokevirtual 102, 3) := by decide +kernel
theorem dX3_reachAll_99 : decode cX3_reachAll 99 = .ok (.ifCond .ne 8, 3) := by decide +kernel
theorem dX3_reachAll_102 : decode cX3_reachAll 102 = .ok (.iload 4, 2) := by decide +kernel
theorem dX3_reachAll_104 : decode cX3_reachAll 104 = .ok (.ifCond .eq 7, 3) := by decide +kernel
theorem dX3_reachAll_107 : decode cX3_reachAll 107 = .ok (.iconst 1, 1) := by decide +kernel
theorem dX3_reachAll_108 : decode cX3_reachAll 108 = .ok (.goto 4, 3) := by decide +kernel
theorem dX3_reachAll_111 : decode cX3_reachAll 111 = .ok (.iconst 0, 1) := by decide +kernel
theorem dX3_reachAll_112 : decode cX3_reachAll 112 = .ok (.istore 4, 2) := by decide +kernel
theorem dX3_reachAll_114 : decode cX3_reachAll 114 = .ok (.iinc 6 1, 3) := by decide +kernel
theorem dX3_reachAll_117 : decode cX3_reachAll 117 = .ok (.goto (-34), 3) := by decide +kernel
theorem dX3_reachAll_120 : decode cX3_reachAll 120 = .ok (.iinc 5 1, 3) := by decide +kernel
theorem dX3_reachAll_123 : decode cX3_reachAll 123 = .ok (.goto (-52), 3) := by decide +kernel
theorem dX3_reachAll_126 : decode cX3_reachAll 126 = .ok (.goto (-66), 3) := by decide +kernel
theorem dX3_reachAll_129 : decode cX3_reachAll 129 = .ok (.return_, 1) := by decide +kernel
set_option maxRecDepth 20000 in
theorem ggX3_through_X3_from : GoodIn wsX3_through wsX3_from := goodIn_r _ [8, 9, 10, 29, 30, 31, 32, 33, 34, 35, 36, 37, 38, 39, 40, 41, 42, 43, 44, 45, 46, 47, 48, 49, 50, 51, 52] (by decide +kernel) (by decide +kernel)
set_option maxRecDepth 20000 in
theorem gX3_through_X3_from : GoodIn wsX3_through (wsV RX3 106 RX3 yX3_from wsX3_from) := goodIn_app (goodIn_of _ (by decide +kernel)) ggX3_through_X3_from
set_option maxRecDepth 20000 in
theorem ggX3_through_X3_mayGo : GoodIn wsX3_through wsX3_mayGo := goodIn_r _ [14, 15, 16, 17, 18, 7, 19, 10, 9, 20, 21, 22, 23, 24, 25, 26, 27, 28, 29, 30, 31, 32, 33, 34, 35, 36, 37, 38, 39, 40, 41, 42, 43, 44, 45, 46, 47, 48, 49, 50, 51, 52] (by decide +kernel) (by decide +kernel)
set_option maxRecDepth 20000 in
theorem gX3_through_X3_mayGo : GoodIn wsX3_through (wsV RX3 109 RX3 yX3_mayGo wsX3_mayGo) := goodIn_app (goodIn_of _ (by decide +kernel)) ggX3_through_X3_mayGo
set_option maxRecDepth 20000 in
theorem ggX3_through_X3_to : GoodIn wsX3_through wsX3_to := goodIn_r _ [19, 10, 9, 29, 30, 31, 32, 33, 34, 35, 36, 37, 38, 39, 40, 41, 42, 43, 44, 45, 46, 47, 48, 49, 50, 51, 52] (by decide +kernel) (by decide +kernel)
set_option maxRecDepth 20000 in
theorem gX3_through_X3_to : GoodIn wsX3_through (wsV RX3 95 RX3 yX3_to wsX3_to) := goodIn_app (goodIn_of _ (by decide +kernel)) ggX3_through_X3_to
theorem dX3_through_0 : decode cX3_through 0 = .ok (.aload_n 0, 1) := by decide +kernel
theorem dX3_through_1 : decode cX3_through 1 = .ok (.getfield 50, 3) := by decide +kernel
theorem dX3_through_4 : decode cX3_through 4 = .ok (.aload_n 0, 1) := by decide +kernel
theorem dX3_through_5 : decode cX3_through 5 = .ok (.iload_n 2, 1) := by decide +kernel
theorem dX3_through_6 : decode cX3_through 6 = .ok (.iload_n 3, 1) := by decide +kernel
theorem dX3_through_7 : decode cX3_through 7 = .ok (.invokevirtual 106, 3) := by decide +kernel
theorem dX3_through_10 : decode cX3_through 10 = .ok (.iaload, 1) := by decide +kernel
theorem dX3_through_11 : decode cX3_through 11 = .ok (.iconst (-1), 1) := by decide +kernel
theorem dX3_through_12 : decode cX3_through 12 = .ok (.if_icmp .eq 15, 3) := by decide +kernel
theorem dX3_through_15 : decode cX3_through 15 = .ok (.aload_n 0, 1) := by decide +kernel
theorem dX3_through_16 : decode cX3_through 16 = .ok (.iload_n 1, 1) := by decide +kernel
theorem dX3_through_17 : decode cX3_through 17 = .ok (.iload_n 2, 1) := by decide +kernel
theorem dX3_through_18 : decode cX3_through 18 = .ok (.iload_n 3, 1) := by decide +kernel
theorem dX3_through_19 : decode cX3_through 19 = .ok (.iload 4, 2) := by decide +kernel
theorem dX3_through_21 : decode cX3_through 21 = .ok (.invokevirtual 109, 3) := by decide +kernel
theorem dX3_through_24 : decode cX3_through 24 = .ok (.ifCond .ne 5, 3) := by decide +kernel
theorem dX3_through_27 : decode cX3_through 27 = .ok (.iconst (-1), 1) := by decide +kernel
theorem dX3_through_28 : decode cX3_through 28 = .ok (.ireturn, 1) := by decide +kernel
theorem dX3_through_29 : decode cX3_through 29 = .ok (.aload_n 0, 1) := by decide +kernel
theorem dX3_through_30 : decode cX3_through 30 = .ok (.getfield 50, 3) := by decide +kernel
theorem dX3_through_33 : decode cX3_through 33 = .ok (.aload_n 0, 1) := by decide +kernel
theorem dX3_through_34 : decode cX3_through 34 = .ok (.iload_n 2, 1) := by decide +kernel
theorem dX3_through_35 : decode cX3_through 35 = .ok (.iload_n 3, 1) := by decide +kernel
theorem dX3_through_36 : decode cX3_through 36 = .ok (.invokevirtual 106, 3) := by decide +kernel
theorem dX3_through_39 : decode cX3_through 39 = .ok (.iaload, 1) := by decide +kernel
theorem dX3_through_40 : decode cX3_through 40 = .ok (.aload_n 0, 1) := by decide +kernel
theorem dX3_through_41 : decode cX3_through 41 = .ok (.getfield 35, 3) := by decide +kernel
theorem dX3_through_44 : decode cX3_through 44 = .ok (.iload_n 2, 1) := by decide +kernel
theorem dX3_through_45 : decode cX3_through 45 = .ok (.iaload, 1) := by decide +kernel
theorem dX3_through_46 : decode cX3_through 46 = .ok (.iadd, 1) := by decide +kernel
theorem dX3_through_47 : decode cX3_through 47 = .ok (.aload_n 0, 1) := by decide +kernel
theorem dX3_through_48 : decode cX3_through 48 = .ok (.getfield 13, 3) := by decide +kernel
theorem dX3_through_51 : decode cX3_through 51 = .ok (.aload_n 0, 1) := by decide +kernel
theorem dX3_through_52 : decode cX3_through 52 = .ok (.iload_n 2, 1) := by decide +kernel
theorem dX3_through_53 : decode cX3_through 53 = .ok (.iload_n 3, 1) := by decide +kernel
theorem dX3_through_54 : decode cX3_through 54 = .ok (.invokevirtual 95, 3) := by decide +kernel
theorem dX3_through_57 : decode cX3_through 57 = .ok (.iconst 2, 1) := by decide +kernel
theorem dX3_through_58 : decode cX3_through 58 = .ok (.idiv, 1) := by decide +kernel
theorem dX3_through_59 : decode cX3_through 59 = .ok (.iaload, 1) := by decide +kernel
theorem dX3_through_60 : decode cX3_through 60 = .ok (.iadd, 1) := by decide +kernel
theorem dX3_through_61 : decode cX3_through 61 = .ok (.ireturn, 1) := by decide +kernel
set_option maxRecDepth 20000 in
theorem ggX3_lower_X3_through : GoodIn wsX3_lower wsX3_through := goodIn_r _ [6, 1, 7, 8, 9, 10, 11, 5, 12, 13, 14, 15, 16, 17, 18, 19, 20, 21, 22, 23, 24, 25, 26, 27, 28, 29, 30, 31, 32, 33, 34, 35, 36, 37, 38, 39, 40, 41, 42, 43, 44, 45, 46, 47, 48, 49, 50, 51, 52, 53, 54, 55, 56] (by decide +kernel) (by decide +kernel)
set_option maxRecDepth 20000 in
theorem gX3_lower_X3_through : GoodIn wsX3_lower (wsV RX3 112 RX3 yX3_through wsX3_through) := goodIn_app (goodIn_of _ (by decide +kernel)) ggX3_lower_X3_through
set_option maxRecDepth 20000 in
theorem ggX3_lower_X3_to : GoodIn wsX3_lower wsX3_to := goodIn_r _ [23, 14, 13, 33, 34, 35, 36, 37, 38, 39, 40, 41, 42, 43, 44, 45, 46, 47, 48, 49, 50, 51, 52, 53, 54, 55, 56] (by decide +kernel) (by decide +kernel)
set_option maxRecDepth 20000 in
theorem gX3_lower_X3_to : GoodIn wsX3_lower (wsV RX3 95 RX3 yX3_to wsX3_to) := goodIn_app (goodIn_of _ (by decide +kernel)) ggX3_lower_X3_to
theorem dX3_lower_0 : decode cX3_lower 0 = .ok (.aload_n 0, 1) := by decide +kernel
theorem dX3_lower_1 : decode cX3_lower 1 = .ok (.iload_n 1, 1) := by decide +kernel
theorem dX3_lower_2 : decode cX3_lower 2 = .ok (.iload_n 2, 1) := by decide +kernel
theorem dX3_lower_3 : decode cX3_lower 3 = .ok (.iload_n 3, 1) := by decide +kernel
theorem dX3_lower_4 : decode cX3_lower 4 = .ok (.iload 4, 2) := by decide +kernel
theorem dX3_lower_6 : decode cX3_lower 6 = .ok (.invokevirtual 112, 3) := by decide +kernel
theorem dX3_lower_9 : decode cX3_lower 9 = .ok (.istore 5, 2) := by decide +kernel
theorem dX3_lower_11 : decode cX3_lower 11 = .ok (.aload_n 0, 1) := by decide +kernel
theorem dX3_lower_12 : decode cX3_lower 12 = .ok (.iload_n 2, 1) := by decide +kernel
theorem dX3_lower_13 : decode cX3_lower 13 = .ok (.iload_n 3, 1) := by decide +kernel
theorem dX3_lower_14 : decode cX3_lower 14 = .ok (.invokevirtual 95, 3) := by decide +kernel
theorem dX3_lower_17 : decode cX3_lower 17 = .ok (.iconst 1, 1) := by decide +kernel
theorem dX3_lower_18 : decode cX3_lower 18 = .ok (.ixor, 1) := by decide +kernel
theorem dX3_lower_19 : decode cX3_lower 19 = .ok (.istore 6, 2) := by decide +kernel
theorem dX3_lower_21 : decode cX3_lower 21 = .ok (.iload 5, 2) := by decide +kernel
theorem dX3_lower_23 : decode cX3_lower 23 = .ok (.iconst (-1), 1) := by decide +kernel
theorem dX3_lower_24 : decode cX3_lower 24 = .ok (.if_icmp .eq 26, 3) := by decide +kernel
theorem dX3_lower_27 : decode cX3_lower 27 = .ok (.aload_n 0, 1) := by decide +kernel
theorem dX3_lower_28 : decode cX3_lower 28 = .ok (.getfield 50, 3) := by decide +kernel
theorem dX3_lower_31 : decode cX3_lower 31 = .ok (.iload 6, 2) := by decide +kernel
theorem dX3_lower_33 : decode cX3_lower 33 = .ok (.iaload, 1) := by decide +kernel
theorem dX3_lower_34 : decode cX3_lower 34 = .ok (.iconst (-1), 1) := by decide +kernel
theorem dX3_lower_35 : decode cX3_lower 35 = .ok (.if_icmp .eq 17, 3) := by decide +kernel
theorem dX3_lower_38 : decode cX3_lower 38 = .ok (.aload_n 0, 1) := by decide +kernel
theorem dX3_lower_39 : decode cX3_lower 39 = .ok (.getfield 50, 3) := by decide +kernel
theorem dX3_lower_42 : decode cX3_lower 42 = .ok (.iload 6, 2) := by decide +kernel
theorem dX3_lower_44 : decode cX3_lower 44 = .ok (.iaload, 1) := by decide +kernel
theorem dX3_lower_45 : decode cX3_lower 45 = .ok (.iload 5, 2) := by decide +kernel
theorem dX3_lower_47 : decode cX3_lower 47 = .ok (.if_icmp .gt 5, 3) := by decide +kernel
theorem dX3_lower_50 : decode cX3_lower 50 = .ok (.iconst 0, 1) := by decide +kernel
theorem dX3_lower_51 : decode cX3_lower 51 = .ok (.ireturn, 1) := by decide +kernel
theorem dX3_lower_52 : decode cX3_lower 52 = .ok (.aload_n 0, 1) := by decide +kernel
theorem dX3_lower_53 : decode cX3_lower 53 = .ok (.getfield 50, 3) := by decide +kernel
theorem dX3_lower_56 : decode cX3_lower 56 = .ok (.iload 6, 2) := by decide +kernel
theorem dX3_lower_58 : decode cX3_lower 58 = .ok (.iload 5, 2) := by decide +kernel
theorem dX3_lower_60 : decode cX3_lower 60 = .ok (.iastore, 1) := by decide +kernel
theorem dX3_lower_61 : decode cX3_lower 61 = .ok (.iconst 1, 1) := by decide +kernel
theorem dX3_lower_62 : decode cX3_lower 62 = .ok (.ireturn, 1) := by decide +kernel
set_option maxRecDepth 20000 in
theorem ggX3_secondsTo_X3_to : GoodIn wsX3_secondsTo wsX3_to := goodIn_r _ [8, 9, 10, 29, 30, 31, 32, 33, 34, 35, 36, 37, 38, 39, 40, 41, 42, 43, 44, 45, 46, 47, 48, 49, 50, 51, 52] (by decide +kernel) (by decide +kernel)
set_option maxRecDepth 20000 in
theorem gX3_secondsTo_X3_to : GoodIn wsX3_secondsTo (wsV RX3 95 RX3 yX3_to wsX3_to) := goodIn_app (goodIn_of _ (by decide +kernel)) ggX3_secondsTo_X3_to
set_option maxRecDepth 20000 in
theorem ggX3_secondsTo_X3_from : GoodIn wsX3_secondsTo wsX3_from := goodIn_r _ [14, 10, 9, 29, 30, 31, 32, 33, 34, 35, 36, 37, 38, 39, 40, 41, 42, 43, 44, 45, 46, 47, 48, 49, 50, 51, 52] (by decide +kernel) (by decide +kernel)
set_option maxRecDepth 20000 in
theorem gX3_secondsTo_X3_from : GoodIn wsX3_secondsTo (wsV RX3 106 RX3 yX3_from wsX3_from) := goodIn_app (goodIn_of _ (by decide +kernel)) ggX3_secondsTo_X3_from
set_option maxRecDepth 20000 in
theorem ggX3_secondsTo_X3_mayGo : GoodIn wsX3_secondsTo wsX3_mayGo := goodIn_r _ [18, 19, 4, 5, 6, 7, 8, 9, 10, 20, 21, 22, 23, 24, 25, 26, 27, 28, 29, 30, 31, 32, 33, 34, 35, 36, 37, 38, 39, 40, 41, 42, 43, 44, 45, 46, 47, 48, 49, 50, 51, 52] (by decide +kernel) (by decide +kernel)
set_option maxRecDepth 20000 in
theorem gX3_secondsTo_X3_mayGo : GoodIn wsX3_secondsTo (wsV RX3 109 RX3 yX3_mayGo wsX3_mayGo) := goodIn_app (goodIn_of _ (by decide +kernel)) ggX3_secondsTo_X3_mayGo
theorem dX3_secondsTo_0 : decode cX3_secondsTo 0 = .ok (.iload_n 3, 1) := by decide +kernel
theorem dX3_secondsTo_1 : decode cX3_secondsTo 1 = .ok (.iload_n 2, 1) := by decide +kernel
theorem dX3_secondsTo_2 : decode cX3_secondsTo 2 = .ok (.if_icmp .ne 5, 3) := by decide +kernel
theorem dX3_secondsTo_5 : decode cX3_secondsTo 5 = .ok (.iconst 0, 1) := by decide +kernel
theorem dX3_secondsTo_6 : decode cX3_secondsTo 6 = .ok (.ireturn, 1) := by decide +kernel
theorem dX3_secondsTo_7 : decode cX3_secondsTo 7 = .ok (.iconst (-1), 1) := by decide +kernel
theorem dX3_secondsTo_8 : decode cX3_secondsTo 8 = .ok (.istore 5, 2) := by decide +kernel
theorem dX3_secondsTo_10 : decode cX3_secondsTo 10 = .ok (.iconst 0, 1) := by decide +kernel
theorem dX3_secondsTo_11 : decode cX3_secondsTo 11 = .ok (.istore 6, 2) := by decide +kernel
theorem dX3_secondsTo_13 : decode cX3_secondsTo 13 = .ok (.iload 6, 2) := by decide +kernel
theorem dX3_secondsTo_15 : decode cX3_secondsTo 15 = .ok (.aload_n 0, 1) := by decide +kernel
theorem dX3_secondsTo_16 : decode cX3_secondsTo 16 = .ok (.getfield 73, 3) := by decide +kernel
theorem dX3_secondsTo_19 : decode cX3_secondsTo 19 = .ok (.if_icmp .ge 117, 3) := by decide +kernel
theorem dX3_secondsTo_22 : decode cX3_secondsTo 22 = .ok (.iconst 0, 1) := by decide +kernel
theorem dX3_secondsTo_23 : decode cX3_secondsTo 23 = .ok (.istore 7, 2) := by decide +kernel
theorem dX3_secondsTo_25 : decode cX3_secondsTo 25 = .ok (.iload 7, 2) := by decide +kernel
theorem dX3_secondsTo_27 : decode cX3_secondsTo 27 = .ok (.iconst 2, 1) := by decide +kernel
theorem dX3_secondsTo_28 : decode cX3_secondsTo 28 = .ok (.if_icmp .ge 102, 3) := by decide +kernel
theorem dX3_secondsTo_31 : decode cX3_secondsTo 31 = .ok (.aload_n 0, 1) := by decide +kernel
theorem dX3_secondsTo_32 : decode cX3_secondsTo 32 = .ok (.iload 6, 2) := by decide +kernel
theorem dX3_secondsTo_34 : decode cX3_secondsTo 34 = .ok (.iload 7, 2) := by decide +kernel
theorem dX3_secondsTo_36 : decode cX3_secondsTo 36 = .ok (.invokevirtual 95, 3) := by decide +kernel
theorem dX3_secondsTo_39 : decode cX3_secondsTo 39 = .ok (.iconst 2, 1) := by decide +kernel
theorem dX3_secondsTo_40 : decode cX3_secondsTo 40 = .ok (.idiv, 1) := by decide +kernel
theorem dX3_secondsTo_41 : decode cX3_secondsTo 41 = .ok (.iload_n 3, 1) := by decide +kernel
theorem dX3_secondsTo_42 : decode cX3_secondsTo 42 = .ok (.if_icmp .ne 82, 3) := by decide +kernel
theorem dX3_secondsTo_45 : decode cX3_secondsTo 45 = .ok (.aload_n 0, 1) := by decide +kernel
theorem dX3_secondsTo_46 : decode cX3_secondsTo 46 = .ok (.getfield 50, 3) := by decide +kernel
theorem dX3_secondsTo_49 : decode cX3_secondsTo 49 = .ok (.aload_n 0, 1) := by decide +kernel
theorem dX3_secondsTo_50 : decode cX3_secondsTo 50 = .ok (.iload 6, 2) := by decide +kernel
theorem dX3_secondsTo_52 : decode cX3_secondsTo 52 = .ok (.iload 7, 2) := by decide +kernel
theorem dX3_secondsTo_54 : decode cX3_secondsTo 54 = .ok (.invokevirtual 106, 3) := by decide +kernel
theorem dX3_secondsTo_57 : decode cX3_secondsTo 57 = .ok (.iaload, 1) := by decide +kernel
theorem dX3_secondsTo_58 : decode cX3_secondsTo 58 = .ok (.iconst (-1), 1) := by decide +kernel
theorem dX3_secondsTo_59 : decode cX3_secondsTo 59 = .ok (.if_icmp .eq 65, 3) := by decide +kernel
theorem dX3_secondsTo_62 : decode cX3_secondsTo 62 = .ok (.aload_n 0, 1) := by decide +kernel
theorem dX3_secondsTo_63 : decode cX3_secondsTo 63 = .ok (.iload_n 1, 1) := by decide +kernel
theorem dX3_secondsTo_64 : decode cX3_secondsTo 64 = .ok (.iload 6, 2) := by decide +kernel
theorem dX3_secondsTo_66 : decode cX3_secondsTo 66 = .ok (.iload 7, 2) := by decide +kernel
theorem dX3_secondsTo_68 : decode cX3_secondsTo 68 = .ok (.iload 4, 2) := by decide +kernel
theorem dX3_secondsTo_70 : decode cX3_secondsTo 70 = .ok (.invokevirtual 109, 3) := by decide +kernel
theorem dX3_secondsTo_73 : decode cX3_secondsTo 73 = .ok (.ifCond .ne 6, 3) := by decide +kernel
theorem dX3_secondsTo_76 : decode cX3_secondsTo 76 = .ok (.goto 48, 3) := by decide +kernel
theorem dX3_secondsTo_79 : decode cX3_secondsTo 79 = .ok (.aload_n 0, 1) := by decide +kernel
theorem dX3_secondsTo_80 : decode cX3_secondsTo 80 = .ok (.getfield 50, 3) := by decide +kernel
theorem dX3_secondsTo_83 : decode cX3_secondsTo 83 = .ok (.aload_n 0, 1) := by decide +kernel
theorem dX3_secondsTo_84 : decode cX3_secondsTo 84 = .ok (.iload 6, 2) := by decide +kernel
theorem dX3_secondsTo_86 : decode cX3_secondsTo 86 = .ok (.iload 7, 2) := by decide +kernel
theorem dX3_secondsTo_88 : decode cX3_secondsTo 88 = .ok (.invokevirtual 106, 3) := by decide +kernel
theorem dX3_secondsTo_91 : decode cX3_secondsTo 91 = .ok (.iaload, 1) := by decide +kernel
theorem dX3_secondsTo_92 : decode cX3_secondsTo 92 = .ok (.aload_n 0, 1) := by decide +kernel
theorem dX3_secondsTo_93 : decode cX3_secondsTo 93 = .ok (.getfield 35, 3) := by decide +kernel
theorem dX3_secondsTo_96 : decode cX3_secondsTo 96 = .ok (.iload 6, 2) := by decide +kernel
theorem dX3_secondsTo_98 : decode cX3_secondsTo 98 = .ok (.iaload, 1) := by decide +kernel
theorem dX3_secondsTo_99 : decode cX3_secondsTo 99 = .ok (.iadd, 1) := by decide +kernel
theorem dX3_secondsTo_100 : decode cX3_secondsTo 100 = .ok (.istore 8, 2) := by decide +kernel
theorem dX3_secondsTo_102 : decode cX3_secondsTo 102 = .ok (.iload 5, 2) := by decide +kernel
theorem dX3_secondsTo_104 : decode cX3_secondsTo 104 = .ok (.iconst (-1), 1) := by decide +kernel
theorem dX3_secondsTo_105 : decode cX3_secondsTo 105 = .ok (.if_icmp .eq 10, 3) := by decide +kernel
theorem dX3_secondsTo_108 : decode cX3_secondsTo 108 = .ok (.iload 8, 2) := by decide +kernel
theorem dX3_secondsTo_110 : decode cX3_secondsTo 110 = .ok (.iload 5, 2) := by decide +kernel
theorem dX3_secondsTo_112 : decode cX3_secondsTo 112 = .ok (.if_icmp .ge 8, 3) := by decide +kernel
end
section
theorem dX3_secondsTo_115 : decode cX3_secondsTo 115 = .ok (.iload 8, 2) := by decide +kernel
theorem dX3_secondsTo_117 : decode cX3_secondsTo 117 = .ok (.goto 5, 3) := by decide +kernel
theorem dX3_secondsTo_120 : decode cX3_secondsTo 120 = .ok (.iload 5, 2) := by decide +kernel
theorem dX3_secondsTo_122 : decode cX3_secondsTo 122 = .ok (.istore 5, 2) := by decide +kernel
theorem dX3_secondsTo_124 : decode cX3_secondsTo 124 = .ok (.iinc 7 1, 3) := by decide +kernel
theorem dX3_secondsTo_127 : decode cX3_secondsTo 127 = .ok (.goto (-102), 3) := by decide +kernel
theorem dX3_secondsTo_130 : decode cX3_secondsTo 130 = .ok (.iinc 6 1, 3) := by decide +kernel
theorem dX3_secondsTo_133 : decode cX3_secondsTo 133 = .ok (.goto (-120), 3) := by decide +kernel
theorem dX3_secondsTo_136 : decode cX3_secondsTo 136 = .ok (.iload 5, 2) := by decide +kernel
theorem dX3_secondsTo_138 : decode cX3_secondsTo 138 = .ok (.ireturn, 1) := by decide +kernel
set_option maxRecDepth 20000 in
theorem ggX3_lastEnd_X3_to : GoodIn wsX3_lastEnd wsX3_to := goodIn_r _ [8, 9, 10, 29, 30, 31, 32, 33, 34, 35, 36, 37, 38, 39, 40, 41, 42, 43, 44, 45, 46, 47, 48, 49, 50, 51, 52] (by decide +kernel) (by decide +kernel)
set_option maxRecDepth 20000 in
theorem gX3_lastEnd_X3_to : GoodIn wsX3_lastEnd (wsV RX3 95 RX3 yX3_to wsX3_to) := goodIn_app (goodIn_of _ (by decide +kernel)) ggX3_lastEnd_X3_to
set_option maxRecDepth 20000 in
theorem ggX3_lastEnd_X3_from : GoodIn wsX3_lastEnd wsX3_from := goodIn_r _ [14, 10, 9, 29, 30, 31, 32, 33, 34, 35, 36, 37, 38, 39, 40, 41, 42, 43, 44, 45, 46, 47, 48, 49, 50, 51, 52] (by decide +kernel) (by decide +kernel)
set_option maxRecDepth 20000 in
theorem gX3_lastEnd_X3_from : GoodIn wsX3_lastEnd (wsV RX3 106 RX3 yX3_from wsX3_from) := goodIn_app (goodIn_of _ (by decide +kernel)) ggX3_lastEnd_X3_from
set_option maxRecDepth 20000 in
theorem ggX3_lastEnd_X3_mayGo : GoodIn wsX3_lastEnd wsX3_mayGo := goodIn_r _ [18, 19, 4, 5, 6, 7, 8, 9, 10, 20, 21, 22, 23, 24, 25, 26, 27, 28, 29, 30, 31, 32, 33, 34, 35, 36, 37, 38, 39, 40, 41, 42, 43, 44, 45, 46, 47, 48, 49, 50, 51, 52] (by decide +kernel) (by decide +kernel)
set_option maxRecDepth 20000 in
theorem gX3_lastEnd_X3_mayGo : GoodIn wsX3_lastEnd (wsV RX3 109 RX3 yX3_mayGo wsX3_mayGo) := goodIn_app (goodIn_of _ (by decide +kernel)) ggX3_lastEnd_X3_mayGo
theorem dX3_lastEnd_0 : decode cX3_lastEnd 0 = .ok (.iconst 0, 1) := by decide +kernel
theorem dX3_lastEnd_1 : decode cX3_lastEnd 1 = .ok (.istore 5, 2) := by decide +kernel
theorem dX3_lastEnd_3 : decode cX3_lastEnd 3 = .ok (.iload 5, 2) := by decide +kernel
theorem dX3_lastEnd_5 : decode cX3_lastEnd 5 = .ok (.aload_n 0, 1) := by decide +kernel
theorem dX3_lastEnd_6 : decode cX3_lastEnd 6 = .ok (.getfield 73, 3) := by decide +kernel
theorem dX3_lastEnd_9 : decode cX3_lastEnd 9 = .ok (.if_icmp .ge 103, 3) := by decide +kernel
theorem dX3_lastEnd_12 : decode cX3_lastEnd 12 = .ok (.iconst 0, 1) := by decide +kernel
theorem dX3_lastEnd_13 : decode cX3_lastEnd 13 = .ok (.istore 6, 2) := by decide +kernel
theorem dX3_lastEnd_15 : decode cX3_lastEnd 15 = .ok (.iload 6, 2) := by decide +kernel
theorem dX3_lastEnd_17 : decode cX3_lastEnd 17 = .ok (.iconst 2, 1) := by decide +kernel
theorem dX3_lastEnd_18 : decode cX3_lastEnd 18 = .ok (.if_icmp .ge 88, 3) := by decide +kernel
theorem dX3_lastEnd_21 : decode cX3_lastEnd 21 = .ok (.aload_n 0, 1) := by decide +kernel
theorem dX3_lastEnd_22 : decode cX3_lastEnd 22 = .ok (.iload 5, 2) := by decide +kernel
theorem dX3_lastEnd_24 : decode cX3_lastEnd 24 = .ok (.iload 6, 2) := by decide +kernel
theorem dX3_lastEnd_26 : decode cX3_lastEnd 26 = .ok (.invokevirtual 95, 3) := by decide +kernel
theorem dX3_lastEnd_29 : decode cX3_lastEnd 29 = .ok (.iconst 2, 1) := by decide +kernel
theorem dX3_lastEnd_30 : decode cX3_lastEnd 30 = .ok (.idiv, 1) := by decide +kernel
theorem dX3_lastEnd_31 : decode cX3_lastEnd 31 = .ok (.iload_n 2, 1) := by decide +kernel
theorem dX3_lastEnd_32 : decode cX3_lastEnd 32 = .ok (.if_icmp .ne 68, 3) := by decide +kernel
theorem dX3_lastEnd_35 : decode cX3_lastEnd 35 = .ok (.aload_n 0, 1) := by decide +kernel
theorem dX3_lastEnd_36 : decode cX3_lastEnd 36 = .ok (.getfield 50, 3) := by decide +kernel
theorem dX3_lastEnd_39 : decode cX3_lastEnd 39 = .ok (.aload_n 0, 1) := by decide +kernel
theorem dX3_lastEnd_40 : decode cX3_lastEnd 40 = .ok (.iload 5, 2) := by decide +kernel
theorem dX3_lastEnd_42 : decode cX3_lastEnd 42 = .ok (.iload 6, 2) := by decide +kernel
theorem dX3_lastEnd_44 : decode cX3_lastEnd 44 = .ok (.invokevirtual 106, 3) := by decide +kernel
theorem dX3_lastEnd_47 : decode cX3_lastEnd 47 = .ok (.iaload, 1) := by decide +kernel
theorem dX3_lastEnd_48 : decode cX3_lastEnd 48 = .ok (.iconst (-1), 1) := by decide +kernel
theorem dX3_lastEnd_49 : decode cX3_lastEnd 49 = .ok (.if_icmp .eq 51, 3) := by decide +kernel
theorem dX3_lastEnd_52 : decode cX3_lastEnd 52 = .ok (.aload_n 0, 1) := by decide +kernel
theorem dX3_lastEnd_53 : decode cX3_lastEnd 53 = .ok (.iload_n 1, 1) := by decide +kernel
theorem dX3_lastEnd_54 : decode cX3_lastEnd 54 = .ok (.iload 5, 2) := by decide +kernel
theorem dX3_lastEnd_56 : decode cX3_lastEnd 56 = .ok (.iload 6, 2) := by decide +kernel
theorem dX3_lastEnd_58 : decode cX3_lastEnd 58 = .ok (.iload 4, 2) := by decide +kernel
theorem dX3_lastEnd_60 : decode cX3_lastEnd 60 = .ok (.invokevirtual 109, 3) := by decide +kernel
theorem dX3_lastEnd_63 : decode cX3_lastEnd 63 = .ok (.ifCond .eq 37, 3) := by decide +kernel
theorem dX3_lastEnd_66 : decode cX3_lastEnd 66 = .ok (.aload_n 0, 1) := by decide +kernel
theorem dX3_lastEnd_67 : decode cX3_lastEnd 67 = .ok (.getfield 50, 3) := by decide +kernel
theorem dX3_lastEnd_70 : decode cX3_lastEnd 70 = .ok (.aload_n 0, 1) := by decide +kernel
theorem dX3_lastEnd_71 : decode cX3_lastEnd 71 = .ok (.iload 5, 2) := by decide +kernel
theorem dX3_lastEnd_73 : decode cX3_lastEnd 73 = .ok (.iload 6, 2) := by decide +kernel
theorem dX3_lastEnd_75 : decode cX3_lastEnd 75 = .ok (.invokevirtual 106, 3) := by decide +kernel
theorem dX3_lastEnd_78 : decode cX3_lastEnd 78 = .ok (.iaload, 1) := by decide +kernel
theorem dX3_lastEnd_79 : decode cX3_lastEnd 79 = .ok (.aload_n 0, 1) := by decide +kernel
theorem dX3_lastEnd_80 : decode cX3_lastEnd 80 = .ok (.getfield 35, 3) := by decide +kernel
theorem dX3_lastEnd_83 : decode cX3_lastEnd 83 = .ok (.iload 5, 2) := by decide +kernel
theorem dX3_lastEnd_85 : decode cX3_lastEnd 85 = .ok (.iaload, 1) := by decide +kernel
theorem dX3_lastEnd_86 : decode cX3_lastEnd 86 = .ok (.iadd, 1) := by decide +kernel
theorem dX3_lastEnd_87 : decode cX3_lastEnd 87 = .ok (.iload_n 3, 1) := by decide +kernel
theorem dX3_lastEnd_88 : decode cX3_lastEnd 88 = .ok (.if_icmp .ne 12, 3) := by decide +kernel
theorem dX3_lastEnd_91 : decode cX3_lastEnd 91 = .ok (.aload_n 0, 1) := by decide +kernel
theorem dX3_lastEnd_92 : decode cX3_lastEnd 92 = .ok (.iload 5, 2) := by decide +kernel
theorem dX3_lastEnd_94 : decode cX3_lastEnd 94 = .ok (.iload 6, 2) := by decide +kernel
theorem dX3_lastEnd_96 : decode cX3_lastEnd 96 = .ok (.invokevirtual 106, 3) := by decide +kernel
theorem dX3_lastEnd_99 : decode cX3_lastEnd 99 = .ok (.ireturn, 1) := by decide +kernel
theorem dX3_lastEnd_100 : decode cX3_lastEnd 100 = .ok (.iinc 6 1, 3) := by decide +kernel
theorem dX3_lastEnd_103 : decode cX3_lastEnd 103 = .ok (.goto (-88), 3) := by decide +kernel
theorem dX3_lastEnd_106 : decode cX3_lastEnd 106 = .ok (.iinc 5 1, 3) := by decide +kernel
theorem dX3_lastEnd_109 : decode cX3_lastEnd 109 = .ok (.goto (-106), 3) := by decide +kernel
theorem dX3_lastEnd_112 : decode cX3_lastEnd 112 = .ok (.iconst (-1), 1) := by decide +kernel
theorem dX3_lastEnd_113 : decode cX3_lastEnd 113 = .ok (.ireturn, 1) := by decide +kernel
set_option maxRecDepth 20000 in
theorem ggX3_before_X3_to : GoodIn wsX3_before wsX3_to := goodIn_r _ [7, 8, 9, 34, 35, 36, 37, 38, 39, 40, 41, 42, 43, 44, 45, 46, 47, 48, 49, 50, 51, 52, 53, 54, 55, 56, 57] (by decide +kernel) (by decide +kernel)
set_option maxRecDepth 20000 in
theorem gX3_before_X3_to : GoodIn wsX3_before (wsV RX3 95 RX3 yX3_to wsX3_to) := goodIn_app (goodIn_of _ (by decide +kernel)) ggX3_before_X3_to
set_option maxRecDepth 20000 in
theorem ggX3_before_X3_through : GoodIn wsX3_before wsX3_through := goodIn_r _ [13, 2, 14, 15, 16, 17, 18, 6, 19, 9, 8, 20, 21, 22, 23, 24, 3, 4, 5, 7, 25, 26, 27, 28, 29, 30, 31, 32, 33, 34, 35, 36, 37, 38, 39, 40, 41, 42, 43, 44, 45, 46, 47, 48, 49, 50, 51, 52, 53, 54, 55, 56, 57] (by decide +kernel) (by decide +kernel)
set_option maxRecDepth 20000 in
theorem gX3_before_X3_through : GoodIn wsX3_before (wsV RX3 112 RX3 yX3_through wsX3_through) := goodIn_app (goodIn_of _ (by decide +kernel)) ggX3_before_X3_through
set_option maxRecDepth 20000 in
theorem ggX3_before_X3_from : GoodIn wsX3_before wsX3_from := goodIn_r _ [19, 9, 8, 34, 35, 36, 37, 38, 39, 40, 41, 42, 43, 44, 45, 46, 47, 48, 49, 50, 51, 52, 53, 54, 55, 56, 57] (by decide +kernel) (by decide +kernel)
set_option maxRecDepth 20000 in
theorem gX3_before_X3_from : GoodIn wsX3_before (wsV RX3 106 RX3 yX3_from wsX3_from) := goodIn_app (goodIn_of _ (by decide +kernel)) ggX3_before_X3_from
theorem dX3_before_0 : decode cX3_before 0 = .ok (.iconst 0, 1) := by decide +kernel
theorem dX3_before_1 : decode cX3_before 1 = .ok (.istore 4, 2) := by decide +kernel
theorem dX3_before_3 : decode cX3_before 3 = .ok (.iload 4, 2) := by decide +kernel
theorem dX3_before_5 : decode cX3_before 5 = .ok (.aload_n 0, 1) := by decide +kernel
theorem dX3_before_6 : decode cX3_before 6 = .ok (.getfield 73, 3) := by decide +kernel
theorem dX3_before_9 : decode cX3_before 9 = .ok (.if_icmp .ge 66, 3) := by decide +kernel
theorem dX3_before_12 : decode cX3_before 12 = .ok (.iconst 0, 1) := by decide +kernel
theorem dX3_before_13 : decode cX3_before 13 = .ok (.istore 5, 2) := by decide +kernel
theorem dX3_before_15 : decode cX3_before 15 = .ok (.iload 5, 2) := by decide +kernel
theorem dX3_before_17 : decode cX3_before 17 = .ok (.iconst 2, 1) := by decide +kernel
theorem dX3_before_18 : decode cX3_before 18 = .ok (.if_icmp .ge 51, 3) := by decide +kernel
theorem dX3_before_21 : decode cX3_before 21 = .ok (.aload_n 0, 1) := by decide +kernel
theorem dX3_before_22 : decode cX3_before 22 = .ok (.iload 4, 2) := by decide +kernel
theorem dX3_before_24 : decode cX3_before 24 = .ok (.iload 5, 2) := by decide +kernel
theorem dX3_before_26 : decode cX3_before 26 = .ok (.invokevirtual 95, 3) := by decide +kernel
theorem dX3_before_29 : decode cX3_before 29 = .ok (.iload_n 2, 1) := by decide +kernel
theorem dX3_before_30 : decode cX3_before 30 = .ok (.iconst 1, 1) := by decide +kernel
theorem dX3_before_31 : decode cX3_before 31 = .ok (.ixor, 1) := by decide +kernel
theorem dX3_before_32 : decode cX3_before 32 = .ok (.if_icmp .ne 31, 3) := by decide +kernel
theorem dX3_before_35 : decode cX3_before 35 = .ok (.aload_n 0, 1) := by decide +kernel
theorem dX3_before_36 : decode cX3_before 36 = .ok (.iload_n 1, 1) := by decide +kernel
theorem dX3_before_37 : decode cX3_before 37 = .ok (.iload 4, 2) := by decide +kernel
theorem dX3_before_39 : decode cX3_before 39 = .ok (.iload 5, 2) := by decide +kernel
theorem dX3_before_41 : decode cX3_before 41 = .ok (.iload_n 3, 1) := by decide +kernel
theorem dX3_before_42 : decode cX3_before 42 = .ok (.invokevirtual 112, 3) := by decide +kernel
theorem dX3_before_45 : decode cX3_before 45 = .ok (.aload_n 0, 1) := by decide +kernel
theorem dX3_before_46 : decode cX3_before 46 = .ok (.getfield 50, 3) := by decide +kernel
theorem dX3_before_49 : decode cX3_before 49 = .ok (.iload_n 2, 1) := by decide +kernel
theorem dX3_before_50 : decode cX3_before 50 = .ok (.iaload, 1) := by decide +kernel
theorem dX3_before_51 : decode cX3_before 51 = .ok (.if_icmp .ne 12, 3) := by decide +kernel
theorem dX3_before_54 : decode cX3_before 54 = .ok (.aload_n 0, 1) := by decide +kernel
theorem dX3_before_55 : decode cX3_before 55 = .ok (.iload 4, 2) := by decide +kernel
theorem dX3_before_57 : decode cX3_before 57 = .ok (.iload 5, 2) := by decide +kernel
theorem dX3_before_59 : decode cX3_before 59 = .ok (.invokevirtual 106, 3) := by decide +kernel
theorem dX3_before_62 : decode cX3_before 62 = .ok (.ireturn, 1) := by decide +kernel
theorem dX3_before_63 : decode cX3_before 63 = .ok (.iinc 5 1, 3) := by decide +kernel
theorem dX3_before_66 : decode cX3_before 66 = .ok (.goto (-51), 3) := by decide +kernel
theorem dX3_before_69 : decode cX3_before 69 = .ok (.iinc 4 1, 3) := by decide +kernel
theorem dX3_before_72 : decode cX3_before 72 = .ok (.goto (-69), 3) := by decide +kernel
theorem dX3_before_75 : decode cX3_before 75 = .ok (.iconst (-1), 1) := by decide +kernel
theorem dX3_before_76 : decode cX3_before 76 = .ok (.ireturn, 1) := by decide +kernel
set_option maxRecDepth 20000 in
theorem ggX3_isDrive_X3_in : GoodIn wsX3_isDrive wsX3_in := goodIn_r _ [5] (by decide +kernel) (by decide +kernel)
set_option maxRecDepth 20000 in
theorem gX3_isDrive_X3_in : GoodIn wsX3_isDrive (va_wsS RX3 66 yX3_in wsX3_in) := goodIn_app (goodIn_of _ (by decide +kernel)) ggX3_isDrive_X3_in
set_option maxRecDepth 20000 in
theorem ggX3_isDrive_X3_isPiece : GoodIn wsX3_isDrive wsX3_isPiece := goodIn_r _ [9, 10, 2, 3, 4, 5, 11, 12, 13, 14, 15, 16, 17, 18, 19, 20, 21, 22, 23, 24, 25, 26, 27, 28, 29, 30, 31, 32, 33, 34] (by decide +kernel) (by decide +kernel)
set_option maxRecDepth 20000 in
theorem gX3_isDrive_X3_isPiece : GoodIn wsX3_isDrive (wsV RX3 76 RX3 yX3_isPiece wsX3_isPiece) := goodIn_app (goodIn_of _ (by decide +kernel)) ggX3_isDrive_X3_isPiece
theorem dX3_isDrive_0 : decode cX3_isDrive 0 = .ok (.iload_n 1, 1) := by decide +kernel
theorem dX3_isDrive_1 : decode cX3_isDrive 1 = .ok (.iconst 0, 1) := by decide +kernel
theorem dX3_isDrive_2 : decode cX3_isDrive 2 = .ok (.aload_n 0, 1) := by decide +kernel
theorem dX3_isDrive_3 : decode cX3_isDrive 3 = .ok (.getfield 92, 3) := by decide +kernel
theorem dX3_isDrive_6 : decode cX3_isDrive 6 = .ok (.iconst 1, 1) := by decide +kernel
theorem dX3_isDrive_7 : decode cX3_isDrive 7 = .ok (.isub, 1) := by decide +kernel
theorem dX3_isDrive_8 : decode cX3_isDrive 8 = .ok (.invokestatic 66, 3) := by decide +kernel
theorem dX3_isDrive_11 : decode cX3_isDrive 11 = .ok (.ifCond .eq 34, 3) := by decide +kernel
theorem dX3_isDrive_14 : decode cX3_isDrive 14 = .ok (.aload_n 0, 1) := by decide +kernel
theorem dX3_isDrive_15 : decode cX3_isDrive 15 = .ok (.iload_n 2, 1) := by decide +kernel
theorem dX3_isDrive_16 : decode cX3_isDrive 16 = .ok (.invokevirtual 76, 3) := by decide +kernel
theorem dX3_isDrive_19 : decode cX3_isDrive 19 = .ok (.ifCond .eq 26, 3) := by decide +kernel
theorem dX3_isDrive_22 : decode cX3_isDrive 22 = .ok (.aload_n 0, 1) := by decide +kernel
theorem dX3_isDrive_23 : decode cX3_isDrive 23 = .ok (.iload_n 3, 1) := by decide +kernel
theorem dX3_isDrive_24 : decode cX3_isDrive 24 = .ok (.invokevirtual 76, 3) := by decide +kernel
theorem dX3_isDrive_27 : decode cX3_isDrive 27 = .ok (.ifCond .eq 18, 3) := by decide +kernel
theorem dX3_isDrive_30 : decode cX3_isDrive 30 = .ok (.iload 4, 2) := by decide +kernel
theorem dX3_isDrive_32 : decode cX3_isDrive 32 = .ok (.iconst 0, 1) := by decide +kernel
theorem dX3_isDrive_33 : decode cX3_isDrive 33 = .ok (.bipush 23, 2) := by decide +kernel
theorem dX3_isDrive_35 : decode cX3_isDrive 35 = .ok (.invokestatic 66, 3) := by decide +kernel
theorem dX3_isDrive_38 : decode cX3_isDrive 38 = .ok (.ifCond .eq 7, 3) := by decide +kernel
theorem dX3_isDrive_41 : decode cX3_isDrive 41 = .ok (.iconst 1, 1) := by decide +kernel
theorem dX3_isDrive_42 : decode cX3_isDrive 42 = .ok (.goto 4, 3) := by decide +kernel
theorem dX3_isDrive_45 : decode cX3_isDrive 45 = .ok (.iconst 0, 1) := by decide +kernel
theorem dX3_isDrive_46 : decode cX3_isDrive 46 = .ok (.ireturn, 1) := by decide +kernel
set_option maxRecDepth 20000 in
theorem ggX3_least_X3_reachAll : GoodIn wsX3_least wsX3_reachAll := goodIn_r _ [5, 6, 7, 8, 9, 10, 11, 12, 4, 13, 14, 15, 16, 17, 18, 19, 20, 21, 22, 23, 24, 25, 26, 27, 28, 29, 30, 31, 32, 33, 34, 35, 36, 37, 38, 39, 40, 41, 42, 47, 48, 49, 50, 51, 52, 53, 54, 55, 56, 57, 58, 59, 60, 61, 62, 63, 64, 65, 66, 67, 68, 69, 70] (by decide +kernel) (by decide +kernel)
set_option maxRecDepth 20000 in
theorem gX3_least_X3_reachAll : GoodIn wsX3_least (wsV RX3 116 RX3 yX3_reachAll wsX3_reachAll) := goodIn_app (goodIn_of _ (by decide +kernel)) ggX3_least_X3_reachAll
set_option maxRecDepth 20000 in
theorem ggX3_least_X3_secondsTo : GoodIn wsX3_least wsX3_secondsTo := goodIn_r _ [46, 9, 7, 18, 31, 32, 33, 4, 34, 25, 24, 20, 21, 22, 23, 26, 27, 28, 29, 30, 35, 36, 37, 38, 39, 40, 41, 42, 8, 47, 48, 49, 50, 51, 52, 53, 54, 55, 56, 57, 58, 59, 60, 61, 62, 63, 64, 65, 66, 67, 68, 69, 70] (by decide +kernel) (by decide +kernel)
set_option maxRecDepth 20000 in
theorem gX3_least_X3_secondsTo : GoodIn wsX3_least (wsV RX3 120 RX3 yX3_secondsTo wsX3_secondsTo) := goodIn_app (goodIn_of _ (by decide +kernel)) ggX3_least_X3_secondsTo
theorem dX3_least_0 : decode cX3_least 0 = .ok (.aload_n 0, 1) := by decide +kernel
theorem dX3_least_1 : decode cX3_least 1 = .ok (.iload_n 1, 1) := by decide +kernel
theorem dX3_least_2 : decode cX3_least 2 = .ok (.iload_n 2, 1) := by decide +kernel
theorem dX3_least_3 : decode cX3_least 3 = .ok (.iload 4, 2) := by decide +kernel
theorem dX3_least_5 : decode cX3_least 5 = .ok (.invokevirtual 116, 3) := by decide +kernel
theorem dX3_least_8 : decode cX3_least 8 = .ok (.aload_n 0, 1) := by decide +kernel
theorem dX3_least_9 : decode cX3_least 9 = .ok (.iload_n 1, 1) := by decide +kernel
theorem dX3_least_10 : decode cX3_least 10 = .ok (.iload_n 2, 1) := by decide +kernel
theorem dX3_least_11 : decode cX3_least 11 = .ok (.iload_n 3, 1) := by decide +kernel
theorem dX3_least_12 : decode cX3_least 12 = .ok (.iload 4, 2) := by decide +kernel
theorem dX3_least_14 : decode cX3_least 14 = .ok (.invokevirtual 120, 3) := by decide +kernel
theorem dX3_least_17 : decode cX3_least 17 = .ok (.ireturn, 1) := by decide +kernel
set_option maxRecDepth 20000 in
theorem ggX3_way_X3_isDrive : GoodIn wsX3_way wsX3_isDrive := goodIn_r _ [9, 10, 11, 12, 8, 13, 14, 15, 16, 17, 18, 74, 75, 76, 77, 78, 79, 80, 81, 82, 83, 84, 85, 86, 87, 88, 89, 90, 91, 92, 93, 94, 95, 96, 97] (by decide +kernel) (by decide +kernel)
set_option maxRecDepth 20000 in
theorem gX3_way_X3_isDrive : GoodIn wsX3_way (wsV RX3 123 RX3 yX3_isDrive wsX3_isDrive) := goodIn_app (goodIn_of _ (by decide +kernel)) ggX3_way_X3_isDrive
set_option maxRecDepth 20000 in
theorem ggX3_way_X3_least : GoodIn wsX3_way wsX3_least := goodIn_r _ [22, 23, 24, 25, 8, 26, 18, 4, 27, 28, 29, 30, 31, 32, 33, 34, 35, 36, 37, 38, 39, 40, 41, 42, 43, 44, 45, 46, 47, 48, 49, 50, 51, 52, 53, 54, 55, 56, 57, 58, 59, 60, 61, 62, 63, 64, 65, 74, 75, 76, 77, 78, 79, 80, 81, 82, 83, 84, 85, 86, 87, 88, 89, 90, 91, 92, 93, 94, 95, 96, 97] (by decide +kernel) (by decide +kernel)
set_option maxRecDepth 20000 in
theorem gX3_way_X3_least : GoodIn wsX3_way (wsV RX3 126 RX3 yX3_least wsX3_least) := goodIn_app (goodIn_of _ (by decide +kernel)) ggX3_way_X3_least
set_option maxRecDepth 20000 in
theorem ggX3_way_X3_lastEnd : GoodIn wsX3_way wsX3_lastEnd := goodIn_r _ [69, 28, 4, 37, 50, 51, 52, 8, 53, 44, 43, 39, 40, 41, 42, 45, 46, 47, 48, 49, 54, 55, 56, 57, 58, 59, 60, 61, 27, 74, 75, 76, 77, 78, 79, 80, 81, 82, 83, 84, 85, 86, 87, 88, 89, 90, 91, 92, 93, 94, 95, 96, 97] (by decide +kernel) (by decide +kernel)
set_option maxRecDepth 20000 in
theorem gX3_way_X3_lastEnd : GoodIn wsX3_way (wsV RX3 132 RX3 yX3_lastEnd wsX3_lastEnd) := goodIn_app (goodIn_of _ (by decide +kernel)) ggX3_way_X3_lastEnd
set_option maxRecDepth 20000 in
theorem ggX3_way_X3_before : GoodIn wsX3_way wsX3_before := goodIn_r _ [73, 28, 4, 50, 51, 52, 8, 53, 44, 43, 33, 34, 35, 36, 37, 38, 39, 40, 41, 42, 45, 46, 47, 48, 49, 54, 55, 56, 57, 58, 59, 60, 61, 27, 74, 75, 76, 77, 78, 79, 80, 81, 82, 83, 84, 85, 86, 87, 88, 89, 90, 91, 92, 93, 94, 95, 96, 97] (by decide +kernel) (by decide +kernel)
set_option maxRecDepth 20000 in
theorem gX3_way_X3_before : GoodIn wsX3_way (wsV RX3 135 RX3 yX3_before wsX3_before) := goodIn_app (goodIn_of _ (by decide +kernel)) ggX3_way_X3_before
theorem dX3_way_0 : decode cX3_way 0 = .ok (.aload_n 0, 1) := by decide +kernel
theorem dX3_way_1 : decode cX3_way 1 = .ok (.aload_n 0, 1) := by decide +kernel
theorem dX3_way_2 : decode cX3_way 2 = .ok (.iload_n 1, 1) := by decide +kernel
theorem dX3_way_3 : decode cX3_way 3 = .ok (.iload_n 2, 1) := by decide +kernel
theorem dX3_way_4 : decode cX3_way 4 = .ok (.iload_n 3, 1) := by decide +kernel
theorem dX3_way_5 : decode cX3_way 5 = .ok (.iload 4, 2) := by decide +kernel
theorem dX3_way_7 : decode cX3_way 7 = .ok (.invokevirtual 123, 3) := by decide +kernel
theorem dX3_way_10 : decode cX3_way 10 = .ok (.ifCond .eq 7, 3) := by decide +kernel
theorem dX3_way_13 : decode cX3_way 13 = .ok (.iconst 0, 1) := by decide +kernel
theorem dX3_way_14 : decode cX3_way 14 = .ok (.goto 4, 3) := by decide +kernel
theorem dX3_way_17 : decode cX3_way 17 = .ok (.iconst 1, 1) := by decide +kernel
theorem dX3_way_18 : decode cX3_way 18 = .ok (.putfield 59, 3) := by decide +kernel
theorem dX3_way_21 : decode cX3_way 21 = .ok (.aload_n 0, 1) := by decide +kernel
theorem dX3_way_22 : decode cX3_way 22 = .ok (.getfield 59, 3) := by decide +kernel
theorem dX3_way_25 : decode cX3_way 25 = .ok (.ifCond .le 5, 3) := by decide +kernel
theorem dX3_way_28 : decode cX3_way 28 = .ok (.iconst 0, 1) := by decide +kernel
theorem dX3_way_29 : decode cX3_way 29 = .ok (.ireturn, 1) := by decide +kernel
theorem dX3_way_30 : decode cX3_way 30 = .ok (.aload_n 0, 1) := by decide +kernel
theorem dX3_way_31 : decode cX3_way 31 = .ok (.iload_n 1, 1) := by decide +kernel
theorem dX3_way_32 : decode cX3_way 32 = .ok (.iload_n 2, 1) := by decide +kernel
theorem dX3_way_33 : decode cX3_way 33 = .ok (.iload_n 3, 1) := by decide +kernel
theorem dX3_way_34 : decode cX3_way 34 = .ok (.iload 4, 2) := by decide +kernel
theorem dX3_way_36 : decode cX3_way 36 = .ok (.invokevirtual 126, 3) := by decide +kernel
theorem dX3_way_39 : decode cX3_way 39 = .ok (.istore 5, 2) := by decide +kernel
theorem dX3_way_41 : decode cX3_way 41 = .ok (.aload_n 0, 1) := by decide +kernel
theorem dX3_way_42 : decode cX3_way 42 = .ok (.iconst 0, 1) := by decide +kernel
theorem dX3_way_43 : decode cX3_way 43 = .ok (.putfield 129, 3) := by decide +kernel
theorem dX3_way_46 : decode cX3_way 46 = .ok (.iload 5, 2) := by decide +kernel
theorem dX3_way_48 : decode cX3_way 48 = .ok (.iconst (-1), 1) := by decide +kernel
theorem dX3_way_49 : decode cX3_way 49 = .ok (.if_icmp .ne 5, 3) := by decide +kernel
theorem dX3_way_52 : decode cX3_way 52 = .ok (.iconst (-1), 1) := by decide +kernel
theorem dX3_way_53 : decode cX3_way 53 = .ok (.ireturn, 1) := by decide +kernel
theorem dX3_way_54 : decode cX3_way 54 = .ok (.aload_n 0, 1) := by decide +kernel
theorem dX3_way_55 : decode cX3_way 55 = .ok (.getfield 53, 3) := by decide +kernel
theorem dX3_way_58 : decode cX3_way 58 = .ok (.iconst 0, 1) := by decide +kernel
theorem dX3_way_59 : decode cX3_way 59 = .ok (.iload_n 3, 1) := by decide +kernel
theorem dX3_way_60 : decode cX3_way 60 = .ok (.iastore, 1) := by decide +kernel
theorem dX3_way_61 : decode cX3_way 61 = .ok (.aload_n 0, 1) := by decide +kernel
theorem dX3_way_62 : decode cX3_way 62 = .ok (.iconst 1, 1) := by decide +kernel
theorem dX3_way_63 : decode cX3_way 63 = .ok (.putfield 129, 3) := by decide +kernel
theorem dX3_way_66 : decode cX3_way 66 = .ok (.iload_n 2, 1) := by decide +kernel
theorem dX3_way_67 : decode cX3_way 67 = .ok (.iload_n 3, 1) := by decide +kernel
theorem dX3_way_68 : decode cX3_way 68 = .ok (.if_icmp .ne 5, 3) := by decide +kernel
theorem dX3_way_71 : decode cX3_way 71 = .ok (.iconst 0, 1) := by decide +kernel
theorem dX3_way_72 : decode cX3_way 72 = .ok (.ireturn, 1) := by decide +kernel
theorem dX3_way_73 : decode cX3_way 73 = .ok (.aload_n 0, 1) := by decide +kernel
theorem dX3_way_74 : decode cX3_way 74 = .ok (.iload_n 1, 1) := by decide +kernel
theorem dX3_way_75 : decode cX3_way 75 = .ok (.iload_n 3, 1) := by decide +kernel
theorem dX3_way_76 : decode cX3_way 76 = .ok (.iload 5, 2) := by decide +kernel
theorem dX3_way_78 : decode cX3_way 78 = .ok (.iload 4, 2) := by decide +kernel
theorem dX3_way_80 : decode cX3_way 80 = .ok (.invokevirtual 132, 3) := by decide +kernel
theorem dX3_way_83 : decode cX3_way 83 = .ok (.istore 6, 2) := by decide +kernel
theorem dX3_way_85 : decode cX3_way 85 = .ok (.aload_n 0, 1) := by decide +kernel
theorem dX3_way_86 : decode cX3_way 86 = .ok (.getfield 50, 3) := by decide +kernel
theorem dX3_way_89 : decode cX3_way 89 = .ok (.iload 6, 2) := by decide +kernel
theorem dX3_way_91 : decode cX3_way 91 = .ok (.iaload, 1) := by decide +kernel
theorem dX3_way_92 : decode cX3_way 92 = .ok (.ifCond .le 40, 3) := by decide +kernel
theorem dX3_way_95 : decode cX3_way 95 = .ok (.aload_n 0, 1) := by decide +kernel
theorem dX3_way_96 : decode cX3_way 96 = .ok (.getfield 53, 3) := by decide +kernel
theorem dX3_way_99 : decode cX3_way 99 = .ok (.aload_n 0, 1) := by decide +kernel
theorem dX3_way_100 : decode cX3_way 100 = .ok (.getfield 129, 3) := by decide +kernel
theorem dX3_way_103 : decode cX3_way 103 = .ok (.iload 6, 2) := by decide +kernel
theorem dX3_way_105 : decode cX3_way 105 = .ok (.iconst 2, 1) := by decide +kernel
theorem dX3_way_106 : decode cX3_way 106 = .ok (.idiv, 1) := by decide +kernel
theorem dX3_way_107 : decode cX3_way 107 = .ok (.iastore, 1) := by decide +kernel
theorem dX3_way_108 : decode cX3_way 108 = .ok (.aload_n 0, 1) := by decide +kernel
theorem dX3_way_109 : decode cX3_way 109 = .ok (.dup, 1) := by decide +kernel
theorem dX3_way_110 : decode cX3_way 110 = .ok (.getfield 129, 3) := by decide +kernel
theorem dX3_way_113 : decode cX3_way 113 = .ok (.iconst 1, 1) := by decide +kernel
theorem dX3_way_114 : decode cX3_way 114 = .ok (.iadd, 1) := by decide +kernel
theorem dX3_way_115 : decode cX3_way 115 = .ok (.putfield 129, 3) := by decide +kernel
theorem dX3_way_118 : decode cX3_way 118 = .ok (.aload_n 0, 1) := by decide +kernel
theorem dX3_way_119 : decode cX3_way 119 = .ok (.iload_n 1, 1) := by decide +kernel
theorem dX3_way_120 : decode cX3_way 120 = .ok (.iload 6, 2) := by decide +kernel
theorem dX3_way_122 : decode cX3_way 122 = .ok (.iload 4, 2) := by decide +kernel
theorem dX3_way_124 : decode cX3_way 124 = .ok (.invokevirtual 135, 3) := by decide +kernel
theorem dX3_way_127 : decode cX3_way 127 = .ok (.istore 6, 2) := by decide +kernel
theorem dX3_way_129 : decode cX3_way 129 = .ok (.goto (-44), 3) := by decide +kernel
theorem dX3_way_132 : decode cX3_way 132 = .ok (.aload_n 0, 1) := by decide +kernel
theorem dX3_way_133 : decode cX3_way 133 = .ok (.getfield 53, 3) := by decide +kernel
theorem dX3_way_136 : decode cX3_way 136 = .ok (.aload_n 0, 1) := by decide +kernel
theorem dX3_way_137 : decode cX3_way 137 = .ok (.getfield 129, 3) := by decide +kernel
theorem dX3_way_140 : decode cX3_way 140 = .ok (.iload 6, 2) := by decide +kernel
theorem dX3_way_142 : decode cX3_way 142 = .ok (.iconst 2, 1) := by decide +kernel
theorem dX3_way_143 : decode cX3_way 143 = .ok (.idiv, 1) := by decide +kernel
theorem dX3_way_144 : decode cX3_way 144 = .ok (.iastore, 1) := by decide +kernel
theorem dX3_way_145 : decode cX3_way 145 = .ok (.aload_n 0, 1) := by decide +kernel
theorem dX3_way_146 : decode cX3_way 146 = .ok (.dup, 1) := by decide +kernel
theorem dX3_way_147 : decode cX3_way 147 = .ok (.getfield 129, 3) := by decide +kernel
theorem dX3_way_150 : decode cX3_way 150 = .ok (.iconst 1, 1) := by decide +kernel
theorem dX3_way_151 : decode cX3_way 151 = .ok (.iadd, 1) := by decide +kernel
theorem dX3_way_152 : decode cX3_way 152 = .ok (.putfield 129, 3) := by decide +kernel
theorem dX3_way_155 : decode cX3_way 155 = .ok (.iload 5, 2) := by decide +kernel
theorem dX3_way_157 : decode cX3_way 157 = .ok (.ireturn, 1) := by decide +kernel
set_option maxRecDepth 20000 in
theorem ggX3_step_X3_in : GoodIn wsX3_step wsX3_in := goodIn_r _ [7] (by decide +kernel) (by decide +kernel)
set_option maxRecDepth 20000 in
theorem gX3_step_X3_in : GoodIn wsX3_step (va_wsS RX3 66 yX3_in wsX3_in) := goodIn_app (goodIn_of _ (by decide +kernel)) ggX3_step_X3_in
theorem dX3_step_0 : decode cX3_step 0 = .ok (.aload_n 0, 1) := by decide +kernel
theorem dX3_step_1 : decode cX3_step 1 = .ok (.iconst 0, 1) := by decide +kernel
theorem dX3_step_2 : decode cX3_step 2 = .ok (.putfield 59, 3) := by decide +kernel
theorem dX3_step_5 : decode cX3_step 5 = .ok (.iload_n 1, 1) := by decide +kernel
theorem dX3_step_6 : decode cX3_step 6 = .ok (.iconst 0, 1) := by decide +kernel
theorem dX3_step_7 : decode cX3_step 7 = .ok (.aload_n 0, 1) := by decide +kernel
theorem dX3_step_8 : decode cX3_step 8 = .ok (.getfield 129, 3) := by decide +kernel
theorem dX3_step_11 : decode cX3_step 11 = .ok (.iconst 1, 1) := by decide +kernel
theorem dX3_step_12 : decode cX3_step 12 = .ok (.isub, 1) := by decide +kernel
theorem dX3_step_13 : decode cX3_step 13 = .ok (.invokestatic 66, 3) := by decide +kernel
theorem dX3_step_16 : decode cX3_step 16 = .ok (.ifCond .eq 19, 3) := by decide +kernel
theorem dX3_step_19 : decode cX3_step 19 = .ok (.aload_n 0, 1) := by decide +kernel
theorem dX3_step_20 : decode cX3_step 20 = .ok (.getfield 53, 3) := by decide +kernel
theorem dX3_step_23 : decode cX3_step 23 = .ok (.aload_n 0, 1) := by decide +kernel
theorem dX3_step_24 : decode cX3_step 24 = .ok (.getfield 129, 3) := by decide +kernel
theorem dX3_step_27 : decode cX3_step 27 = .ok (.iconst 1, 1) := by decide +kernel
theorem dX3_step_28 : decode cX3_step 28 = .ok (.isub, 1) := by decide +kernel
theorem dX3_step_29 : decode cX3_step 29 = .ok (.iload_n 1, 1) := by decide +kernel
theorem dX3_step_30 : decode cX3_step 30 = .ok (.isub, 1) := by decide +kernel
theorem dX3_step_31 : decode cX3_step 31 = .ok (.iaload, 1) := by decide +kernel
theorem dX3_step_32 : decode cX3_step 32 = .ok (.goto 4, 3) := by decide +kernel
theorem dX3_step_35 : decode cX3_step 35 = .ok (.iconst (-1), 1) := by decide +kernel
theorem dX3_step_36 : decode cX3_step 36 = .ok (.ireturn, 1) := by decide +kernel
set_option maxRecDepth 20000 in
theorem ggX3_same_X3_isDrive : GoodIn wsX3_same wsX3_isDrive := goodIn_r _ [6, 7, 8, 9, 5, 10, 11, 12, 13, 14, 15, 64, 65, 66, 67, 68, 69, 70, 71, 72, 73, 74, 75, 76, 77, 78, 79, 80, 81, 82, 83, 84, 85, 86, 87] (by decide +kernel) (by decide +kernel)
set_option maxRecDepth 20000 in
theorem gX3_same_X3_isDrive : GoodIn wsX3_same (wsV RX3 123 RX3 yX3_isDrive wsX3_isDrive) := goodIn_app (goodIn_of _ (by decide +kernel)) ggX3_same_X3_isDrive
set_option maxRecDepth 20000 in
theorem ggX3_same_X3_least : GoodIn wsX3_same wsX3_least := goodIn_r _ [19, 20, 21, 22, 5, 23, 15, 24, 25, 26, 27, 28, 29, 30, 31, 32, 33, 34, 35, 36, 37, 38, 39, 40, 41, 42, 43, 44, 45, 46, 47, 48, 49, 50, 51, 52, 53, 54, 55, 56, 57, 58, 59, 60, 61, 62, 63, 64, 65, 66, 67, 68, 69, 70, 71, 72, 73, 74, 75, 76, 77, 78, 79, 80, 81, 82, 83, 84, 85, 86, 87] (by decide +kernel) (by decide +kernel)
set_option maxRecDepth 20000 in
theorem gX3_same_X3_least : GoodIn wsX3_same (wsV RX3 126 RX3 yX3_least wsX3_least) := goodIn_app (goodIn_of _ (by decide +kernel)) ggX3_same_X3_least
theorem dX3_same_0 : decode cX3_same 0 = .ok (.aload_n 0, 1) := by decide +kernel
theorem dX3_same_1 : decode cX3_same 1 = .ok (.aload_n 0, 1) := by decide +kernel
theorem dX3_same_2 : decode cX3_same 2 = .ok (.iload_n 1, 1) := by decide +kernel
theorem dX3_same_3 : decode cX3_same 3 = .ok (.iload_n 2, 1) := by decide +kernel
theorem dX3_same_4 : decode cX3_same 4 = .ok (.iload_n 3, 1) := by decide +kernel
theorem dX3_same_5 : decode cX3_same 5 = .ok (.iload 4, 2) := by decide +kernel
theorem dX3_same_7 : decode cX3_same 7 = .ok (.invokevirtual 123, 3) := by decide +kernel
theorem dX3_same_10 : decode cX3_same 10 = .ok (.ifCond .eq 7, 3) := by decide +kernel
theorem dX3_same_13 : decode cX3_same 13 = .ok (.iconst 0, 1) := by decide +kernel
theorem dX3_same_14 : decode cX3_same 14 = .ok (.goto 4, 3) := by decide +kernel
theorem dX3_same_17 : decode cX3_same 17 = .ok (.iconst 1, 1) := by decide +kernel
theorem dX3_same_18 : decode cX3_same 18 = .ok (.putfield 59, 3) := by decide +kernel
theorem dX3_same_21 : decode cX3_same 21 = .ok (.aload_n 0, 1) := by decide +kernel
theorem dX3_same_22 : decode cX3_same 22 = .ok (.getfield 59, 3) := by decide +kernel
theorem dX3_same_25 : decode cX3_same 25 = .ok (.ifCond .ne 28, 3) := by decide +kernel
theorem dX3_same_28 : decode cX3_same 28 = .ok (.aload_n 0, 1) := by decide +kernel
theorem dX3_same_29 : decode cX3_same 29 = .ok (.iload_n 1, 1) := by decide +kernel
theorem dX3_same_30 : decode cX3_same 30 = .ok (.iload_n 2, 1) := by decide +kernel
theorem dX3_same_31 : decode cX3_same 31 = .ok (.iload_n 3, 1) := by decide +kernel
theorem dX3_same_32 : decode cX3_same 32 = .ok (.iload 4, 2) := by decide +kernel
theorem dX3_same_34 : decode cX3_same 34 = .ok (.invokevirtual 126, 3) := by decide +kernel
theorem dX3_same_37 : decode cX3_same 37 = .ok (.aload_n 0, 1) := by decide +kernel
theorem dX3_same_38 : decode cX3_same 38 = .ok (.iload_n 1, 1) := by decide +kernel
theorem dX3_same_39 : decode cX3_same 39 = .ok (.iload_n 3, 1) := by decide +kernel
theorem dX3_same_40 : decode cX3_same 40 = .ok (.iload_n 2, 1) := by decide +kernel
theorem dX3_same_41 : decode cX3_same 41 = .ok (.iload 4, 2) := by decide +kernel
theorem dX3_same_43 : decode cX3_same 43 = .ok (.invokevirtual 126, 3) := by decide +kernel
theorem dX3_same_46 : decode cX3_same 46 = .ok (.if_icmp .ne 7, 3) := by decide +kernel
theorem dX3_same_49 : decode cX3_same 49 = .ok (.iconst 1, 1) := by decide +kernel
theorem dX3_same_50 : decode cX3_same 50 = .ok (.goto 4, 3) := by decide +kernel
theorem dX3_same_53 : decode cX3_same 53 = .ok (.iconst 0, 1) := by decide +kernel
theorem dX3_same_54 : decode cX3_same 54 = .ok (.ireturn, 1) := by decide +kernel
set_option maxRecDepth 20000 in
theorem ggX3_charger_X3_isPiece : GoodIn wsX3_charger wsX3_isPiece := goodIn_r _ [9, 10, 11, 12, 8, 13, 14, 15, 16, 17, 18, 19, 20, 21, 22, 23, 24, 25, 26, 27, 28, 29, 30, 31, 32, 33, 34, 35, 36, 37] (by decide +kernel) (by decide +kernel)
set_option maxRecDepth 20000 in
theorem gX3_charger_X3_isPiece : GoodIn wsX3_charger (wsV RX3 76 RX3 yX3_isPiece wsX3_isPiece) := goodIn_app (goodIn_of _ (by decide +kernel)) ggX3_charger_X3_isPiece
theorem dX3_charger_0 : decode cX3_charger 0 = .ok (.aload_n 0, 1) := by decide +kernel
theorem dX3_charger_1 : decode cX3_charger 1 = .ok (.aload_n 0, 1) := by decide +kernel
theorem dX3_charger_2 : decode cX3_charger 2 = .ok (.iload_n 1, 1) := by decide +kernel
theorem dX3_charger_3 : decode cX3_charger 3 = .ok (.invokevirtual 76, 3) := by decide +kernel
theorem dX3_charger_6 : decode cX3_charger 6 = .ok (.ifCond .ne 7, 3) := by decide +kernel
theorem dX3_charger_9 : decode cX3_charger 9 = .ok (.iconst 1, 1) := by decide +kernel
theorem dX3_charger_10 : decode cX3_charger 10 = .ok (.goto 4, 3) := by decide +kernel
theorem dX3_charger_13 : decode cX3_charger 13 = .ok (.iconst 0, 1) := by decide +kernel
theorem dX3_charger_14 : decode cX3_charger 14 = .ok (.putfield 59, 3) := by decide +kernel
theorem dX3_charger_17 : decode cX3_charger 17 = .ok (.iconst 0, 1) := by decide +kernel
theorem dX3_charger_18 : decode cX3_charger 18 = .ok (.istore_n 2, 1) := by decide +kernel
theorem dX3_charger_19 : decode cX3_charger 19 = .ok (.iload_n 2, 1) := by decide +kernel
theorem dX3_charger_20 : decode cX3_charger 20 = .ok (.aload_n 0, 1) := by decide +kernel
theorem dX3_charger_21 : decode cX3_charger 21 = .ok (.getfield 138, 3) := by decide +kernel
theorem dX3_charger_24 : decode cX3_charger 24 = .ok (.if_icmp .ge 35, 3) := by decide +kernel
theorem dX3_charger_27 : decode cX3_charger 27 = .ok (.aload_n 0, 1) := by decide +kernel
theorem dX3_charger_28 : decode cX3_charger 28 = .ok (.getfield 59, 3) := by decide +kernel
theorem dX3_charger_31 : decode cX3_charger 31 = .ok (.ifCond .ne 28, 3) := by decide +kernel
theorem dX3_charger_34 : decode cX3_charger 34 = .ok (.aload_n 0, 1) := by decide +kernel
theorem dX3_charger_35 : decode cX3_charger 35 = .ok (.aload_n 0, 1) := by decide +kernel
theorem dX3_charger_36 : decode cX3_charger 36 = .ok (.getfield 44, 3) := by decide +kernel
theorem dX3_charger_39 : decode cX3_charger 39 = .ok (.iload_n 2, 1) := by decide +kernel
theorem dX3_charger_40 : decode cX3_charger 40 = .ok (.iaload, 1) := by decide +kernel
theorem dX3_charger_41 : decode cX3_charger 41 = .ok (.iload_n 1, 1) := by decide +kernel
theorem dX3_charger_42 : decode cX3_charger 42 = .ok (.if_icmp .ne 7, 3) := by decide +kernel
theorem dX3_charger_45 : decode cX3_charger 45 = .ok (.iconst 2, 1) := by decide +kernel
theorem dX3_charger_46 : decode cX3_charger 46 = .ok (.goto 4, 3) := by decide +kernel
theorem dX3_charger_49 : decode cX3_charger 49 = .ok (.iconst 0, 1) := by decide +kernel
theorem dX3_charger_50 : decode cX3_charger 50 = .ok (.putfield 59, 3) := by decide +kernel
theorem dX3_charger_53 : decode cX3_charger 53 = .ok (.iinc 2 1, 3) := by decide +kernel
theorem dX3_charger_56 : decode cX3_charger 56 = .ok (.goto (-37), 3) := by decide +kernel
theorem dX3_charger_59 : decode cX3_charger 59 = .ok (.aload_n 0, 1) := by decide +kernel
theorem dX3_charger_60 : decode cX3_charger 60 = .ok (.getfield 59, 3) := by decide +kernel
theorem dX3_charger_63 : decode cX3_charger 63 = .ok (.ifCond .ne 21, 3) := by decide +kernel
theorem dX3_charger_66 : decode cX3_charger 66 = .ok (.aload_n 0, 1) := by decide +kernel
theorem dX3_charger_67 : decode cX3_charger 67 = .ok (.aload_n 0, 1) := by decide +kernel
theorem dX3_charger_68 : decode cX3_charger 68 = .ok (.getfield 138, 3) := by decide +kernel
theorem dX3_charger_71 : decode cX3_charger 71 = .ok (.bipush 8, 2) := by decide +kernel
theorem dX3_charger_73 : decode cX3_charger 73 = .ok (.if_icmp .ne 7, 3) := by decide +kernel
theorem dX3_charger_76 : decode cX3_charger 76 = .ok (.iconst 3, 1) := by decide +kernel
theorem dX3_charger_77 : decode cX3_charger 77 = .ok (.goto 4, 3) := by decide +kernel
theorem dX3_charger_80 : decode cX3_charger 80 = .ok (.iconst 0, 1) := by decide +kernel
theorem dX3_charger_81 : decode cX3_charger 81 = .ok (.putfield 59, 3) := by decide +kernel
theorem dX3_charger_84 : decode cX3_charger 84 = .ok (.aload_n 0, 1) := by decide +kernel
theorem dX3_charger_85 : decode cX3_charger 85 = .ok (.getfield 59, 3) := by decide +kernel
theorem dX3_charger_88 : decode cX3_charger 88 = .ok (.ifCond .le 5, 3) := by decide +kernel
theorem dX3_charger_91 : decode cX3_charger 91 = .ok (.iconst 0, 1) := by decide +kernel
theorem dX3_charger_92 : decode cX3_charger 92 = .ok (.ireturn, 1) := by decide +kernel
theorem dX3_charger_93 : decode cX3_charger 93 = .ok (.aload_n 0, 1) := by decide +kernel
theorem dX3_charger_94 : decode cX3_charger 94 = .ok (.getfield 44, 3) := by decide +kernel
theorem dX3_charger_97 : decode cX3_charger 97 = .ok (.aload_n 0, 1) := by decide +kernel
theorem dX3_charger_98 : decode cX3_charger 98 = .ok (.getfield 138, 3) := by decide +kernel
theorem dX3_charger_101 : decode cX3_charger 101 = .ok (.iload_n 1, 1) := by decide +kernel
theorem dX3_charger_102 : decode cX3_charger 102 = .ok (.iastore, 1) := by decide +kernel
theorem dX3_charger_103 : decode cX3_charger 103 = .ok (.aload_n 0, 1) := by decide +kernel
theorem dX3_charger_104 : decode cX3_charger 104 = .ok (.dup, 1) := by decide +kernel
theorem dX3_charger_105 : decode cX3_charger 105 = .ok (.getfield 138, 3) := by decide +kernel
theorem dX3_charger_108 : decode cX3_charger 108 = .ok (.iconst 1, 1) := by decide +kernel
theorem dX3_charger_109 : decode cX3_charger 109 = .ok (.iadd, 1) := by decide +kernel
theorem dX3_charger_110 : decode cX3_charger 110 = .ok (.putfield 138, 3) := by decide +kernel
theorem dX3_charger_113 : decode cX3_charger 113 = .ok (.aload_n 0, 1) := by decide +kernel
theorem dX3_charger_114 : decode cX3_charger 114 = .ok (.dup, 1) := by decide +kernel
theorem dX3_charger_115 : decode cX3_charger 115 = .ok (.getfield 70, 3) := by decide +kernel
theorem dX3_charger_118 : decode cX3_charger 118 = .ok (.iconst 1, 1) := by decide +kernel
theorem dX3_charger_119 : decode cX3_charger 119 = .ok (.iadd, 1) := by decide +kernel
theorem dX3_charger_120 : decode cX3_charger 120 = .ok (.putfield 70, 3) := by decide +kernel
theorem dX3_charger_123 : decode cX3_charger 123 = .ok (.aload_n 0, 1) := by decide +kernel
theorem dX3_charger_124 : decode cX3_charger 124 = .ok (.getfield 138, 3) := by decide +kernel
theorem dX3_charger_127 : decode cX3_charger 127 = .ok (.ireturn, 1) := by decide +kernel
set_option maxRecDepth 20000 in
theorem ggX3_nearest_X3_isDrive : GoodIn wsX3_nearest wsX3_isDrive := goodIn_r _ [9, 10, 11, 12, 8, 13, 14, 15, 16, 17, 2, 62, 63, 64, 65, 66, 67, 68, 69, 70, 71, 72, 73, 74, 75, 76, 77, 78, 79, 80, 81, 82, 83, 84, 85] (by decide +kernel) (by decide +kernel)
set_option maxRecDepth 20000 in
theorem gX3_nearest_X3_isDrive : GoodIn wsX3_nearest (wsV RX3 123 RX3 yX3_isDrive wsX3_isDrive) := goodIn_app (goodIn_of _ (by decide +kernel)) ggX3_nearest_X3_isDrive
set_option maxRecDepth 20000 in
theorem ggX3_nearest_X3_reachAll : GoodIn wsX3_nearest wsX3_reachAll := goodIn_r _ [21, 2, 22, 23, 24, 25, 26, 27, 8, 28, 29, 30, 31, 32, 33, 34, 35, 36, 37, 38, 39, 40, 41, 42, 43, 44, 45, 46, 47, 48, 49, 50, 51, 52, 53, 54, 55, 56, 57, 62, 63, 64, 65, 66, 67, 68, 69, 70, 71, 72, 73, 74, 75, 76, 77, 78, 79, 80, 81, 82, 83, 84, 85] (by decide +kernel) (by decide +kernel)
set_option maxRecDepth 20000 in
theorem gX3_nearest_X3_reachAll : GoodIn wsX3_nearest (wsV RX3 116 RX3 yX3_reachAll wsX3_reachAll) := goodIn_app (goodIn_of _ (by decide +kernel)) ggX3_nearest_X3_reachAll
set_option maxRecDepth 20000 in
theorem ggX3_nearest_X3_secondsTo : GoodIn wsX3_nearest wsX3_secondsTo := goodIn_r _ [61, 24, 22, 33, 46, 47, 48, 8, 49, 40, 39, 35, 36, 37, 38, 41, 42, 43, 44, 45, 50, 51, 52, 53, 54, 55, 56, 57, 23, 62, 63, 64, 65, 66, 67, 68, 69, 70, 71, 72, 73, 74, 75, 76, 77, 78, 79, 80, 81, 82, 83, 84, 85] (by decide +kernel) (by decide +kernel)
set_option maxRecDepth 20000 in
theorem gX3_nearest_X3_secondsTo : GoodIn wsX3_nearest (wsV RX3 120 RX3 yX3_secondsTo wsX3_secondsTo) := goodIn_app (goodIn_of _ (by decide +kernel)) ggX3_nearest_X3_secondsTo
theorem dX3_nearest_0 : decode cX3_nearest 0 = .ok (.aload_n 0, 1) := by decide +kernel
theorem dX3_nearest_1 : decode cX3_nearest 1 = .ok (.aload_n 0, 1) := by decide +kernel
theorem dX3_nearest_2 : decode cX3_nearest 2 = .ok (.iload_n 1, 1) := by decide +kernel
theorem dX3_nearest_3 : decode cX3_nearest 3 = .ok (.iload_n 2, 1) := by decide +kernel
theorem dX3_nearest_4 : decode cX3_nearest 4 = .ok (.iload_n 2, 1) := by decide +kernel
theorem dX3_nearest_5 : decode cX3_nearest 5 = .ok (.iload_n 3, 1) := by decide +kernel
theorem dX3_nearest_6 : decode cX3_nearest 6 = .ok (.invokevirtual 123, 3) := by decide +kernel
theorem dX3_nearest_9 : decode cX3_nearest 9 = .ok (.ifCond .eq 7, 3) := by decide +kernel
theorem dX3_nearest_12 : decode cX3_nearest 12 = .ok (.iconst 0, 1) := by decide +kernel
theorem dX3_nearest_13 : decode cX3_nearest 13 = .ok (.goto 4, 3) := by decide +kernel
theorem dX3_nearest_16 : decode cX3_nearest 16 = .ok (.iconst 1, 1) := by decide +kernel
theorem dX3_nearest_17 : decode cX3_nearest 17 = .ok (.putfield 59, 3) := by decide +kernel
theorem dX3_nearest_20 : decode cX3_nearest 20 = .ok (.aload_n 0, 1) := by decide +kernel
theorem dX3_nearest_21 : decode cX3_nearest 21 = .ok (.getfield 59, 3) := by decide +kernel
theorem dX3_nearest_24 : decode cX3_nearest 24 = .ok (.ifCond .le 5, 3) := by decide +kernel
theorem dX3_nearest_27 : decode cX3_nearest 27 = .ok (.iconst 0, 1) := by decide +kernel
theorem dX3_nearest_28 : decode cX3_nearest 28 = .ok (.ireturn, 1) := by decide +kernel
theorem dX3_nearest_29 : decode cX3_nearest 29 = .ok (.aload_n 0, 1) := by decide +kernel
theorem dX3_nearest_30 : decode cX3_nearest 30 = .ok (.iload_n 1, 1) := by decide +kernel
theorem dX3_nearest_31 : decode cX3_nearest 31 = .ok (.iload_n 2, 1) := by decide +kernel
theorem dX3_nearest_32 : decode cX3_nearest 32 = .ok (.iload_n 3, 1) := by decide +kernel
theorem dX3_nearest_33 : decode cX3_nearest 33 = .ok (.invokevirtual 116, 3) := by decide +kernel
theorem dX3_nearest_36 : decode cX3_nearest 36 = .ok (.iconst (-1), 1) := by decide +kernel
theorem dX3_nearest_37 : decode cX3_nearest 37 = .ok (.istore 4, 2) := by decide +kernel
theorem dX3_nearest_39 : decode cX3_nearest 39 = .ok (.iconst (-1), 1) := by decide +kernel
theorem dX3_nearest_40 : decode cX3_nearest 40 = .ok (.istore 5, 2) := by decide +kernel
theorem dX3_nearest_42 : decode cX3_nearest 42 = .ok (.iconst 0, 1) := by decide +kernel
theorem dX3_nearest_43 : decode cX3_nearest 43 = .ok (.istore 6, 2) := by decide +kernel
theorem dX3_nearest_45 : decode cX3_nearest 45 = .ok (.iload 6, 2) := by decide +kernel
theorem dX3_nearest_47 : decode cX3_nearest 47 = .ok (.aload_n 0, 1) := by decide +kernel
theorem dX3_nearest_48 : decode cX3_nearest 48 = .ok (.getfield 63, 3) := by decide +kernel
theorem dX3_nearest_51 : decode cX3_nearest 51 = .ok (.if_icmp .ge 104, 3) := by decide +kernel
theorem dX3_nearest_54 : decode cX3_nearest 54 = .ok (.iconst 0, 1) := by decide +kernel
theorem dX3_nearest_55 : decode cX3_nearest 55 = .ok (.istore 7, 2) := by decide +kernel
theorem dX3_nearest_57 : decode cX3_nearest 57 = .ok (.iconst 0, 1) := by decide +kernel
theorem dX3_nearest_58 : decode cX3_nearest 58 = .ok (.istore 8, 2) := by decide +kernel
theorem dX3_nearest_60 : decode cX3_nearest 60 = .ok (.iload 8, 2) := by decide +kernel
theorem dX3_nearest_62 : decode cX3_nearest 62 = .ok (.aload_n 0, 1) := by decide +kernel
theorem dX3_nearest_63 : decode cX3_nearest 63 = .ok (.getfield 138, 3) := by decide +kernel
theorem dX3_nearest_66 : decode cX3_nearest 66 = .ok (.if_icmp .ge 33, 3) := by decide +kernel
theorem dX3_nearest_69 : decode cX3_nearest 69 = .ok (.iload 7, 2) := by decide +kernel
theorem dX3_nearest_71 : decode cX3_nearest 71 = .ok (.ifCond .ne 15, 3) := by decide +kernel
theorem dX3_nearest_74 : decode cX3_nearest 74 = .ok (.aload_n 0, 1) := by decide +kernel
theorem dX3_nearest_75 : decode cX3_nearest 75 = .ok (.getfield 44, 3) := by decide +kernel
theorem dX3_nearest_78 : decode cX3_nearest 78 = .ok (.iload 8, 2) := by decide +kernel
theorem dX3_nearest_80 : decode cX3_nearest 80 = .ok (.iaload, 1) := by decide +kernel
theorem dX3_nearest_81 : decode cX3_nearest 81 = .ok (.iload 6, 2) := by decide +kernel
theorem dX3_nearest_83 : decode cX3_nearest 83 = .ok (.if_icmp .ne 7, 3) := by decide +kernel
theorem dX3_nearest_86 : decode cX3_nearest 86 = .ok (.iconst 1, 1) := by decide +kernel
theorem dX3_nearest_87 : decode cX3_nearest 87 = .ok (.goto 4, 3) := by decide +kernel
theorem dX3_nearest_90 : decode cX3_nearest 90 = .ok (.iconst 0, 1) := by decide +kernel
theorem dX3_nearest_91 : decode cX3_nearest 91 = .ok (.istore 7, 2) := by decide +kernel
theorem dX3_nearest_93 : decode cX3_nearest 93 = .ok (.iinc 8 1, 3) := by decide +kernel
theorem dX3_nearest_96 : decode cX3_nearest 96 = .ok (.goto (-36), 3) := by decide +kernel
theorem dX3_nearest_99 : decode cX3_nearest 99 = .ok (.iload 7, 2) := by decide +kernel
theorem dX3_nearest_101 : decode cX3_nearest 101 = .ok (.ifCond .eq 15, 3) := by decide +kernel
theorem dX3_nearest_104 : decode cX3_nearest 104 = .ok (.aload_n 0, 1) := by decide +kernel
theorem dX3_nearest_105 : decode cX3_nearest 105 = .ok (.iload_n 1, 1) := by decide +kernel
theorem dX3_nearest_106 : decode cX3_nearest 106 = .ok (.iload_n 2, 1) := by decide +kernel
theorem dX3_nearest_107 : decode cX3_nearest 107 = .ok (.iload 6, 2) := by decide +kernel
theorem dX3_nearest_109 : decode cX3_nearest 109 = .ok (.iload_n 3, 1) := by decide +kernel
theorem dX3_nearest_110 : decode cX3_nearest 110 = .ok (.invokevirtual 120, 3) := by decide +kernel
theorem dX3_nearest_113 : decode cX3_nearest 113 = .ok (.goto 4, 3) := by decide +kernel
theorem dX3_nearest_116 : decode cX3_nearest 116 = .ok (.iconst (-1), 1) := by decide +kernel
theorem dX3_nearest_117 : decode cX3_nearest 117 = .ok (.istore 8, 2) := by decide +kernel
theorem dX3_nearest_119 : decode cX3_nearest 119 = .ok (.iload 8, 2) := by decide +kernel
theorem dX3_nearest_121 : decode cX3_nearest 121 = .ok (.iconst (-1), 1) := by decide +kernel
theorem dX3_nearest_122 : decode cX3_nearest 122 = .ok (.if_icmp .eq 27, 3) := by decide +kernel
theorem dX3_nearest_125 : decode cX3_nearest 125 = .ok (.iload 4, 2) := by decide +kernel
theorem dX3_nearest_127 : decode cX3_nearest 127 = .ok (.iconst (-1), 1) := by decide +kernel
theorem dX3_nearest_128 : decode cX3_nearest 128 = .ok (.if_icmp .eq 13, 3) := by decide +kernel
theorem dX3_nearest_131 : decode cX3_nearest 131 = .ok (.iload 8, 2) := by decide +kernel
theorem dX3_nearest_133 : decode cX3_nearest 133 = .ok (.iload 5, 2) := by decide +kernel
theorem dX3_nearest_135 : decode cX3_nearest 135 = .ok (.if_icmp .lt 6, 3) := by decide +kernel
theorem dX3_nearest_138 : decode cX3_nearest 138 = .ok (.goto 11, 3) := by decide +kernel
theorem dX3_nearest_141 : decode cX3_nearest 141 = .ok (.iload 6, 2) := by decide +kernel
theorem dX3_nearest_143 : decode cX3_nearest 143 = .ok (.istore 4, 2) := by decide +kernel
theorem dX3_nearest_145 : decode cX3_nearest 145 = .ok (.iload 8, 2) := by decide +kernel
theorem dX3_nearest_147 : decode cX3_nearest 147 = .ok (.istore 5, 2) := by decide +kernel
theorem dX3_nearest_149 : decode cX3_nearest 149 = .ok (.iinc 6 1, 3) := by decide +kernel
theorem dX3_nearest_152 : decode cX3_nearest 152 = .ok (.goto (-107), 3) := by decide +kernel
theorem dX3_nearest_155 : decode cX3_nearest 155 = .ok (.iload 4, 2) := by decide +kernel
theorem dX3_nearest_157 : decode cX3_nearest 157 = .ok (.ireturn, 1) := by decide +kernel
set_option maxRecDepth 20000 in
theorem ggX3_table_X3_in : GoodIn wsX3_table wsX3_in := goodIn_r _ [11] (by decide +kernel) (by decide +kernel)
set_option maxRecDepth 20000 in
theorem gX3_table_X3_in : GoodIn wsX3_table (va_wsS RX3 66 yX3_in wsX3_in) := goodIn_app (goodIn_of _ (by decide +kernel)) ggX3_table_X3_in
set_option maxRecDepth 20000 in
theorem ggX3_table_X3_least : GoodIn wsX3_table wsX3_least := goodIn_r _ [15, 16, 17, 18, 10, 19, 20, 21, 22, 23, 24, 25, 26, 27, 28, 29, 30, 31, 32, 33, 34, 35, 36, 37, 38, 39, 40, 41, 42, 43, 44, 45, 46, 47, 48, 49, 50, 51, 52, 53, 54, 55, 56, 57, 58, 59, 60, 61, 62, 63, 64, 65, 66, 67, 68, 69, 70, 71, 72, 73, 74, 75, 76, 77, 78, 79, 80, 81, 82, 83, 84] (by decide +kernel) (by decide +kernel)
set_option maxRecDepth 20000 in
theorem gX3_table_X3_least : GoodIn wsX3_table (wsV RX3 126 RX3 yX3_least wsX3_least) := goodIn_app (goodIn_of _ (by decide +kernel)) ggX3_table_X3_least
theorem dX3_table_0 : decode cX3_table 0 = .ok (.aload_n 0, 1) := by decide +kernel
theorem dX3_table_1 : decode cX3_table 1 = .ok (.aload_n 0, 1) := by decide +kernel
theorem dX3_table_2 : decode cX3_table 2 = .ok (.getfield 92, 3) := by decide +kernel
theorem dX3_table_5 : decode cX3_table 5 = .ok (.ifCond .ne 7, 3) := by decide +kernel
theorem dX3_table_8 : decode cX3_table 8 = .ok (.iconst 1, 1) := by decide +kernel
theorem dX3_table_9 : decode cX3_table 9 = .ok (.goto 36, 3) := by decide +kernel
theorem dX3_table_12 : decode cX3_table 12 = .ok (.iload_n 1, 1) := by decide +kernel
theorem dX3_table_13 : decode cX3_table 13 = .ok (.iconst 0, 1) := by decide +kernel
theorem dX3_table_14 : decode cX3_table 14 = .ok (.aload_n 0, 1) := by decide +kernel
theorem dX3_table_15 : decode cX3_table 15 = .ok (.getfield 138, 3) := by decide +kernel
theorem dX3_table_18 : decode cX3_table 18 = .ok (.iconst 1, 1) := by decide +kernel
theorem dX3_table_19 : decode cX3_table 19 = .ok (.isub, 1) := by decide +kernel
theorem dX3_table_20 : decode cX3_table 20 = .ok (.invokestatic 66, 3) := by decide +kernel
theorem dX3_table_23 : decode cX3_table 23 = .ok (.ifCond .eq 17, 3) := by decide +kernel
theorem dX3_table_26 : decode cX3_table 26 = .ok (.iload_n 2, 1) := by decide +kernel
theorem dX3_table_27 : decode cX3_table 27 = .ok (.iconst 0, 1) := by decide +kernel
theorem dX3_table_28 : decode cX3_table 28 = .ok (.aload_n 0, 1) := by decide +kernel
theorem dX3_table_29 : decode cX3_table 29 = .ok (.getfield 138, 3) := by decide +kernel
theorem dX3_table_32 : decode cX3_table 32 = .ok (.iconst 1, 1) := by decide +kernel
theorem dX3_table_33 : decode cX3_table 33 = .ok (.isub, 1) := by decide +kernel
theorem dX3_table_34 : decode cX3_table 34 = .ok (.invokestatic 66, 3) := by decide +kernel
theorem dX3_table_37 : decode cX3_table 37 = .ok (.ifCond .ne 7, 3) := by decide +kernel
theorem dX3_table_40 : decode cX3_table 40 = .ok (.iconst 2, 1) := by decide +kernel
theorem dX3_table_41 : decode cX3_table 41 = .ok (.goto 4, 3) := by decide +kernel
theorem dX3_table_44 : decode cX3_table 44 = .ok (.iconst 0, 1) := by decide +kernel
theorem dX3_table_45 : decode cX3_table 45 = .ok (.putfield 59, 3) := by decide +kernel
theorem dX3_table_48 : decode cX3_table 48 = .ok (.aload_n 0, 1) := by decide +kernel
theorem dX3_table_49 : decode cX3_table 49 = .ok (.getfield 59, 3) := by decide +kernel
theorem dX3_table_52 : decode cX3_table 52 = .ok (.ifCond .le 5, 3) := by decide +kernel
theorem dX3_table_55 : decode cX3_table 55 = .ok (.iconst 0, 1) := by decide +kernel
theorem dX3_table_56 : decode cX3_table 56 = .ok (.ireturn, 1) := by decide +kernel
theorem dX3_table_57 : decode cX3_table 57 = .ok (.aload_n 0, 1) := by decide +kernel
theorem dX3_table_58 : decode cX3_table 58 = .ok (.getfield 47, 3) := by decide +kernel
theorem dX3_table_61 : decode cX3_table 61 = .ok (.iload_n 1, 1) := by decide +kernel
theorem dX3_table_62 : decode cX3_table 62 = .ok (.iaload, 1) := by decide +kernel
theorem dX3_table_63 : decode cX3_table 63 = .ok (.aload_n 0, 1) := by decide +kernel
theorem dX3_table_64 : decode cX3_table 64 = .ok (.getfield 70, 3) := by decide +kernel
theorem dX3_table_67 : decode cX3_table 67 = .ok (.if_icmp .eq 23, 3) := by decide +kernel
theorem dX3_table_70 : decode cX3_table 70 = .ok (.aload_n 0, 1) := by decide +kernel
theorem dX3_table_71 : decode cX3_table 71 = .ok (.getfield 47, 3) := by decide +kernel
theorem dX3_table_74 : decode cX3_table 74 = .ok (.iload_n 1, 1) := by decide +kernel
theorem dX3_table_75 : decode cX3_table 75 = .ok (.aload_n 0, 1) := by decide +kernel
theorem dX3_table_76 : decode cX3_table 76 = .ok (.getfield 70, 3) := by decide +kernel
theorem dX3_table_79 : decode cX3_table 79 = .ok (.iastore, 1) := by decide +kernel
theorem dX3_table_80 : decode cX3_table 80 = .ok (.aload_n 0, 1) := by decide +kernel
theorem dX3_table_81 : decode cX3_table 81 = .ok (.dup, 1) := by decide +kernel
theorem dX3_table_82 : decode cX3_table 82 = .ok (.getfield 141, 3) := by decide +kernel
theorem dX3_table_85 : decode cX3_table 85 = .ok (.iconst 1, 1) := by decide +kernel
theorem dX3_table_86 : decode cX3_table 86 = .ok (.iadd, 1) := by decide +kernel
theorem dX3_table_87 : decode cX3_table 87 = .ok (.putfield 141, 3) := by decide +kernel
theorem dX3_table_90 : decode cX3_table 90 = .ok (.aload_n 0, 1) := by decide +kernel
theorem dX3_table_91 : decode cX3_table 91 = .ok (.iconst 0, 1) := by decide +kernel
theorem dX3_table_92 : decode cX3_table 92 = .ok (.aload_n 0, 1) := by decide +kernel
theorem dX3_table_93 : decode cX3_table 93 = .ok (.getfield 44, 3) := by decide +kernel
theorem dX3_table_96 : decode cX3_table 96 = .ok (.iload_n 1, 1) := by decide +kernel
theorem dX3_table_97 : decode cX3_table 97 = .ok (.iaload, 1) := by decide +kernel
theorem dX3_table_98 : decode cX3_table 98 = .ok (.aload_n 0, 1) := by decide +kernel
theorem dX3_table_99 : decode cX3_table 99 = .ok (.getfield 44, 3) := by decide +kernel
theorem dX3_table_102 : decode cX3_table 102 = .ok (.iload_n 2, 1) := by decide +kernel
theorem dX3_table_103 : decode cX3_table 103 = .ok (.iaload, 1) := by decide +kernel
theorem dX3_table_104 : decode cX3_table 104 = .ok (.bipush 12, 2) := by decide +kernel
theorem dX3_table_106 : decode cX3_table 106 = .ok (.invokevirtual 126, 3) := by decide +kernel
theorem dX3_table_109 : decode cX3_table 109 = .ok (.ireturn, 1) := by decide +kernel
theorem dX3_rows_0 : decode cX3_rows 0 = .ok (.aload_n 0, 1) := by decide +kernel
theorem dX3_rows_1 : decode cX3_rows 1 = .ok (.iconst 0, 1) := by decide +kernel
theorem dX3_rows_2 : decode cX3_rows 2 = .ok (.putfield 59, 3) := by decide +kernel
theorem dX3_rows_5 : decode cX3_rows 5 = .ok (.aload_n 0, 1) := by decide +kernel
theorem dX3_rows_6 : decode cX3_rows 6 = .ok (.getfield 141, 3) := by decide +kernel
theorem dX3_rows_9 : decode cX3_rows 9 = .ok (.ireturn, 1) := by decide +kernel
set_option maxRecDepth 20000 in
theorem ggX3_maySet_X3_mayGo : GoodIn wsX3_maySet wsX3_mayGo := goodIn_r _ [7, 8, 9, 10, 11, 6, 12, 13, 14, 15, 16, 17, 18, 19, 20, 21, 22, 1, 27, 28, 29, 30, 31, 32, 33, 34, 35, 36, 37, 38, 39, 40, 41, 42, 43, 44, 45, 46, 47, 48, 49, 50] (by decide +kernel) (by decide +kernel)
set_option maxRecDepth 20000 in
theorem gX3_maySet_X3_mayGo : GoodIn wsX3_maySet (wsV RX3 109 RX3 yX3_mayGo wsX3_mayGo) := goodIn_app (goodIn_of _ (by decide +kernel)) ggX3_maySet_X3_mayGo
set_option maxRecDepth 20000 in
theorem ggX3_maySet_X3_from : GoodIn wsX3_maySet wsX3_from := goodIn_r _ [26, 14, 13, 27, 28, 29, 30, 31, 32, 33, 34, 35, 36, 37, 38, 39, 40, 41, 42, 43, 44, 45, 46, 47, 48, 49, 50] (by decide +kernel) (by decide +kernel)
set_option maxRecDepth 20000 in
theorem gX3_maySet_X3_from : GoodIn wsX3_maySet (wsV RX3 106 RX3 yX3_from wsX3_from) := goodIn_app (goodIn_of _ (by decide +kernel)) ggX3_maySet_X3_from
set_option maxRecDepth 20000 in
theorem ggX3_maySet_X3_to : GoodIn wsX3_maySet wsX3_to := goodIn_r _ [12, 13, 14, 27, 28, 29, 30, 31, 32, 33, 34, 35, 36, 37, 38, 39, 40, 41, 42, 43, 44, 45, 46, 47, 48, 49, 50] (by decide +kernel) (by decide +kernel)
set_option maxRecDepth 20000 in
theorem gX3_maySet_X3_to : GoodIn wsX3_maySet (wsV RX3 95 RX3 yX3_to wsX3_to) := goodIn_app (goodIn_of _ (by decide +kernel)) ggX3_maySet_X3_to
theorem dX3_maySet_0 : decode cX3_maySet 0 = .ok (.iload 4, 2) := by decide +kernel
theorem dX3_maySet_2 : decode cX3_maySet 2 = .ok (.iconst 2, 1) := by decide +kernel
theorem dX3_maySet_3 : decode cX3_maySet 3 = .ok (.idiv, 1) := by decide +kernel
theorem dX3_maySet_4 : decode cX3_maySet 4 = .ok (.istore 6, 2) := by decide +kernel
theorem dX3_maySet_6 : decode cX3_maySet 6 = .ok (.iload 4, 2) := by decide +kernel
theorem dX3_maySet_8 : decode cX3_maySet 8 = .ok (.iconst 2, 1) := by decide +kernel
theorem dX3_maySet_9 : decode cX3_maySet 9 = .ok (.irem, 1) := by decide +kernel
theorem dX3_maySet_10 : decode cX3_maySet 10 = .ok (.istore 7, 2) := by decide +kernel
theorem dX3_maySet_12 : decode cX3_maySet 12 = .ok (.aload_n 0, 1) := by decide +kernel
theorem dX3_maySet_13 : decode cX3_maySet 13 = .ok (.iload_n 1, 1) := by decide +kernel
theorem dX3_maySet_14 : decode cX3_maySet 14 = .ok (.iload 6, 2) := by decide +kernel
theorem dX3_maySet_16 : decode cX3_maySet 16 = .ok (.iload 7, 2) := by decide +kernel
theorem dX3_maySet_18 : decode cX3_maySet 18 = .ok (.iload 5, 2) := by decide +kernel
theorem dX3_maySet_20 : decode cX3_maySet 20 = .ok (.invokevirtual 109, 3) := by decide +kernel
theorem dX3_maySet_23 : decode cX3_maySet 23 = .ok (.ifCond .ne 5, 3) := by decide +kernel
theorem dX3_maySet_26 : decode cX3_maySet 26 = .ok (.iconst 0, 1) := by decide +kernel
theorem dX3_maySet_27 : decode cX3_maySet 27 = .ok (.ireturn, 1) := by decide +kernel
theorem dX3_maySet_28 : decode cX3_maySet 28 = .ok (.aload_n 0, 1) := by decide +kernel
theorem dX3_maySet_29 : decode cX3_maySet 29 = .ok (.iload 6, 2) := by decide +kernel
theorem dX3_maySet_31 : decode cX3_maySet 31 = .ok (.iload 7, 2) := by decide +kernel
theorem dX3_maySet_33 : decode cX3_maySet 33 = .ok (.invokevirtual 106, 3) := by decide +kernel
theorem dX3_maySet_36 : decode cX3_maySet 36 = .ok (.istore 8, 2) := by decide +kernel
theorem dX3_maySet_38 : decode cX3_maySet 38 = .ok (.iload_n 3, 1) := by decide +kernel
theorem dX3_maySet_39 : decode cX3_maySet 39 = .ok (.ifCond .ne 36, 3) := by decide +kernel
theorem dX3_maySet_42 : decode cX3_maySet 42 = .ok (.iload 8, 2) := by decide +kernel
theorem dX3_maySet_44 : decode cX3_maySet 44 = .ok (.iconst 2, 1) := by decide +kernel
theorem dX3_maySet_45 : decode cX3_maySet 45 = .ok (.idiv, 1) := by decide +kernel
theorem dX3_maySet_46 : decode cX3_maySet 46 = .ok (.iload_n 2, 1) := by decide +kernel
theorem dX3_maySet_47 : decode cX3_maySet 47 = .ok (.if_icmp .ne 24, 3) := by decide +kernel
theorem dX3_maySet_50 : decode cX3_maySet 50 = .ok (.iload 8, 2) := by decide +kernel
theorem dX3_maySet_52 : decode cX3_maySet 52 = .ok (.iconst 2, 1) := by decide +kernel
theorem dX3_maySet_53 : decode cX3_maySet 53 = .ok (.irem, 1) := by decide +kernel
theorem dX3_maySet_54 : decode cX3_maySet 54 = .ok (.iconst 1, 1) := by decide +kernel
theorem dX3_maySet_55 : decode cX3_maySet 55 = .ok (.if_icmp .eq 12, 3) := by decide +kernel
theorem dX3_maySet_58 : decode cX3_maySet 58 = .ok (.aload_n 0, 1) := by decide +kernel
theorem dX3_maySet_59 : decode cX3_maySet 59 = .ok (.getfield 19, 3) := by decide +kernel
theorem dX3_maySet_62 : decode cX3_maySet 62 = .ok (.iload_n 2, 1) := by decide +kernel
theorem dX3_maySet_63 : decode cX3_maySet 63 = .ok (.baload, 1) := by decide +kernel
theorem dX3_maySet_64 : decode cX3_maySet 64 = .ok (.ifCond .eq 7, 3) := by decide +kernel
theorem dX3_maySet_67 : decode cX3_maySet 67 = .ok (.iconst 1, 1) := by decide +kernel
theorem dX3_maySet_68 : decode cX3_maySet 68 = .ok (.goto 43, 3) := by decide +kernel
theorem dX3_maySet_71 : decode cX3_maySet 71 = .ok (.iconst 0, 1) := by decide +kernel
theorem dX3_maySet_72 : decode cX3_maySet 72 = .ok (.goto 39, 3) := by decide +kernel
theorem dX3_maySet_75 : decode cX3_maySet 75 = .ok (.iload 8, 2) := by decide +kernel
theorem dX3_maySet_77 : decode cX3_maySet 77 = .ok (.aload_n 0, 1) := by decide +kernel
theorem dX3_maySet_78 : decode cX3_maySet 78 = .ok (.aload_n 0, 1) := by decide +kernel
theorem dX3_maySet_79 : decode cX3_maySet 79 = .ok (.getfield 56, 3) := by decide +kernel
theorem dX3_maySet_82 : decode cX3_maySet 82 = .ok (.iload_n 3, 1) := by decide +kernel
theorem dX3_maySet_83 : decode cX3_maySet 83 = .ok (.iconst 1, 1) := by decide +kernel
theorem dX3_maySet_84 : decode cX3_maySet 84 = .ok (.isub, 1) := by decide +kernel
theorem dX3_maySet_85 : decode cX3_maySet 85 = .ok (.iaload, 1) := by decide +kernel
theorem dX3_maySet_86 : decode cX3_maySet 86 = .ok (.iconst 2, 1) := by decide +kernel
theorem dX3_maySet_87 : decode cX3_maySet 87 = .ok (.idiv, 1) := by decide +kernel
theorem dX3_maySet_88 : decode cX3_maySet 88 = .ok (.aload_n 0, 1) := by decide +kernel
theorem dX3_maySet_89 : decode cX3_maySet 89 = .ok (.getfield 56, 3) := by decide +kernel
theorem dX3_maySet_92 : decode cX3_maySet 92 = .ok (.iload_n 3, 1) := by decide +kernel
theorem dX3_maySet_93 : decode cX3_maySet 93 = .ok (.iconst 1, 1) := by decide +kernel
theorem dX3_maySet_94 : decode cX3_maySet 94 = .ok (.isub, 1) := by decide +kernel
theorem dX3_maySet_95 : decode cX3_maySet 95 = .ok (.iaload, 1) := by decide +kernel
theorem dX3_maySet_96 : decode cX3_maySet 96 = .ok (.iconst 2, 1) := by decide +kernel
theorem dX3_maySet_97 : decode cX3_maySet 97 = .ok (.irem, 1) := by decide +kernel
theorem dX3_maySet_98 : decode cX3_maySet 98 = .ok (.invokevirtual 95, 3) := by decide +kernel
theorem dX3_maySet_101 : decode cX3_maySet 101 = .ok (.iconst 1, 1) := by decide +kernel
theorem dX3_maySet_102 : decode cX3_maySet 102 = .ok (.ixor, 1) := by decide +kernel
theorem dX3_maySet_103 : decode cX3_maySet 103 = .ok (.if_icmp .ne 7, 3) := by decide +kernel
theorem dX3_maySet_106 : decode cX3_maySet 106 = .ok (.iconst 1, 1) := by decide +kernel
theorem dX3_maySet_107 : decode cX3_maySet 107 = .ok (.goto 4, 3) := by decide +kernel
theorem dX3_maySet_110 : decode cX3_maySet 110 = .ok (.iconst 0, 1) := by decide +kernel
theorem dX3_maySet_111 : decode cX3_maySet 111 = .ok (.istore 9, 2) := by decide +kernel
theorem dX3_maySet_113 : decode cX3_maySet 113 = .ok (.aload_n 0, 1) := by decide +kernel
theorem dX3_maySet_114 : decode cX3_maySet 114 = .ok (.iload 6, 2) := by decide +kernel
theorem dX3_maySet_116 : decode cX3_maySet 116 = .ok (.iload 7, 2) := by decide +kernel
theorem dX3_maySet_118 : decode cX3_maySet 118 = .ok (.invokevirtual 95, 3) := by decide +kernel
theorem dX3_maySet_121 : decode cX3_maySet 121 = .ok (.iconst 2, 1) := by decide +kernel
theorem dX3_maySet_122 : decode cX3_maySet 122 = .ok (.idiv, 1) := by decide +kernel
theorem dX3_maySet_123 : decode cX3_maySet 123 = .ok (.istore 10, 2) := by decide +kernel
theorem dX3_maySet_125 : decode cX3_maySet 125 = .ok (.iload 10, 2) := by decide +kernel
theorem dX3_maySet_127 : decode cX3_maySet 127 = .ok (.iload_n 2, 1) := by decide +kernel
end
section
theorem dX3_maySet_128 : decode cX3_maySet 128 = .ok (.if_icmp .ne 7, 3) := by decide +kernel
theorem dX3_maySet_131 : decode cX3_maySet 131 = .ok (.iconst 1, 1) := by decide +kernel
theorem dX3_maySet_132 : decode cX3_maySet 132 = .ok (.goto 4, 3) := by decide +kernel
theorem dX3_maySet_135 : decode cX3_maySet 135 = .ok (.iconst 0, 1) := by decide +kernel
theorem dX3_maySet_136 : decode cX3_maySet 136 = .ok (.istore 11, 2) := by decide +kernel
theorem dX3_maySet_138 : decode cX3_maySet 138 = .ok (.iconst 0, 1) := by decide +kernel
theorem dX3_maySet_139 : decode cX3_maySet 139 = .ok (.istore 12, 2) := by decide +kernel
theorem dX3_maySet_141 : decode cX3_maySet 141 = .ok (.iload 12, 2) := by decide +kernel
theorem dX3_maySet_143 : decode cX3_maySet 143 = .ok (.iload_n 3, 1) := by decide +kernel
theorem dX3_maySet_144 : decode cX3_maySet 144 = .ok (.if_icmp .ge 50, 3) := by decide +kernel
theorem dX3_maySet_147 : decode cX3_maySet 147 = .ok (.iload 11, 2) := by decide +kernel
theorem dX3_maySet_149 : decode cX3_maySet 149 = .ok (.ifCond .ne 32, 3) := by decide +kernel
theorem dX3_maySet_152 : decode cX3_maySet 152 = .ok (.aload_n 0, 1) := by decide +kernel
theorem dX3_maySet_153 : decode cX3_maySet 153 = .ok (.aload_n 0, 1) := by decide +kernel
theorem dX3_maySet_154 : decode cX3_maySet 154 = .ok (.getfield 56, 3) := by decide +kernel
theorem dX3_maySet_157 : decode cX3_maySet 157 = .ok (.iload 12, 2) := by decide +kernel
theorem dX3_maySet_159 : decode cX3_maySet 159 = .ok (.iaload, 1) := by decide +kernel
theorem dX3_maySet_160 : decode cX3_maySet 160 = .ok (.iconst 2, 1) := by decide +kernel
theorem dX3_maySet_161 : decode cX3_maySet 161 = .ok (.idiv, 1) := by decide +kernel
theorem dX3_maySet_162 : decode cX3_maySet 162 = .ok (.aload_n 0, 1) := by decide +kernel
theorem dX3_maySet_163 : decode cX3_maySet 163 = .ok (.getfield 56, 3) := by decide +kernel
theorem dX3_maySet_166 : decode cX3_maySet 166 = .ok (.iload 12, 2) := by decide +kernel
theorem dX3_maySet_168 : decode cX3_maySet 168 = .ok (.iaload, 1) := by decide +kernel
theorem dX3_maySet_169 : decode cX3_maySet 169 = .ok (.iconst 2, 1) := by decide +kernel
theorem dX3_maySet_170 : decode cX3_maySet 170 = .ok (.irem, 1) := by decide +kernel
theorem dX3_maySet_171 : decode cX3_maySet 171 = .ok (.invokevirtual 95, 3) := by decide +kernel
theorem dX3_maySet_174 : decode cX3_maySet 174 = .ok (.iconst 2, 1) := by decide +kernel
theorem dX3_maySet_175 : decode cX3_maySet 175 = .ok (.idiv, 1) := by decide +kernel
theorem dX3_maySet_176 : decode cX3_maySet 176 = .ok (.iload 10, 2) := by decide +kernel
theorem dX3_maySet_178 : decode cX3_maySet 178 = .ok (.if_icmp .ne 7, 3) := by decide +kernel
theorem dX3_maySet_181 : decode cX3_maySet 181 = .ok (.iconst 1, 1) := by decide +kernel
theorem dX3_maySet_182 : decode cX3_maySet 182 = .ok (.goto 4, 3) := by decide +kernel
theorem dX3_maySet_185 : decode cX3_maySet 185 = .ok (.iconst 0, 1) := by decide +kernel
theorem dX3_maySet_186 : decode cX3_maySet 186 = .ok (.istore 11, 2) := by decide +kernel
theorem dX3_maySet_188 : decode cX3_maySet 188 = .ok (.iinc 12 1, 3) := by decide +kernel
theorem dX3_maySet_191 : decode cX3_maySet 191 = .ok (.goto (-50), 3) := by decide +kernel
theorem dX3_maySet_194 : decode cX3_maySet 194 = .ok (.iload 9, 2) := by decide +kernel
theorem dX3_maySet_196 : decode cX3_maySet 196 = .ok (.ifCond .eq 12, 3) := by decide +kernel
theorem dX3_maySet_199 : decode cX3_maySet 199 = .ok (.iload 11, 2) := by decide +kernel
theorem dX3_maySet_201 : decode cX3_maySet 201 = .ok (.ifCond .ne 7, 3) := by decide +kernel
theorem dX3_maySet_204 : decode cX3_maySet 204 = .ok (.iconst 1, 1) := by decide +kernel
theorem dX3_maySet_205 : decode cX3_maySet 205 = .ok (.goto 4, 3) := by decide +kernel
theorem dX3_maySet_208 : decode cX3_maySet 208 = .ok (.iconst 0, 1) := by decide +kernel
theorem dX3_maySet_209 : decode cX3_maySet 209 = .ok (.ireturn, 1) := by decide +kernel
set_option maxRecDepth 20000 in
theorem ggX3_plain_X3_isDrive : GoodIn wsX3_plain wsX3_isDrive := goodIn_r _ [8, 9, 10, 11, 7, 12, 13, 14, 15, 16, 17, 46, 47, 48, 49, 50, 51, 52, 53, 54, 55, 56, 57, 58, 59, 60, 61, 62, 63, 64, 65, 66, 67, 68, 69] (by decide +kernel) (by decide +kernel)
set_option maxRecDepth 20000 in
theorem gX3_plain_X3_isDrive : GoodIn wsX3_plain (wsV RX3 123 RX3 yX3_isDrive wsX3_isDrive) := goodIn_app (goodIn_of _ (by decide +kernel)) ggX3_plain_X3_isDrive
set_option maxRecDepth 20000 in
theorem ggX3_plain_X3_in : GoodIn wsX3_plain wsX3_in := goodIn_r _ [12] (by decide +kernel) (by decide +kernel)
set_option maxRecDepth 20000 in
theorem gX3_plain_X3_in : GoodIn wsX3_plain (va_wsS RX3 66 yX3_in wsX3_in) := goodIn_app (goodIn_of _ (by decide +kernel)) ggX3_plain_X3_in
set_option maxRecDepth 20000 in
theorem ggX3_plain_X3_maySet : GoodIn wsX3_plain wsX3_maySet := goodIn_r _ [21, 22, 2, 23, 24, 25, 7, 26, 27, 28, 29, 30, 31, 32, 33, 34, 35, 36, 37, 38, 39, 40, 41, 42, 43, 44, 45, 46, 47, 48, 49, 50, 51, 52, 53, 54, 55, 56, 57, 58, 59, 60, 61, 62, 63, 64, 65, 66, 67, 68, 69] (by decide +kernel) (by decide +kernel)
set_option maxRecDepth 20000 in
theorem gX3_plain_X3_maySet : GoodIn wsX3_plain (wsV RX3 144 RX3 yX3_maySet wsX3_maySet) := goodIn_app (goodIn_of _ (by decide +kernel)) ggX3_plain_X3_maySet
set_option maxRecDepth 20000 in
theorem ggX3_plain_X3_to : GoodIn wsX3_plain wsX3_to := goodIn_r _ [31, 32, 33, 46, 47, 48, 49, 50, 51, 52, 53, 54, 55, 56, 57, 58, 59, 60, 61, 62, 63, 64, 65, 66, 67, 68, 69] (by decide +kernel) (by decide +kernel)
set_option maxRecDepth 20000 in
theorem gX3_plain_X3_to : GoodIn wsX3_plain (wsV RX3 95 RX3 yX3_to wsX3_to) := goodIn_app (goodIn_of _ (by decide +kernel)) ggX3_plain_X3_to
theorem dX3_plain_0 : decode cX3_plain 0 = .ok (.aload_n 0, 1) := by decide +kernel
theorem dX3_plain_1 : decode cX3_plain 1 = .ok (.aload_n 0, 1) := by decide +kernel
theorem dX3_plain_2 : decode cX3_plain 2 = .ok (.iload_n 1, 1) := by decide +kernel
theorem dX3_plain_3 : decode cX3_plain 3 = .ok (.iload_n 2, 1) := by decide +kernel
theorem dX3_plain_4 : decode cX3_plain 4 = .ok (.iload_n 3, 1) := by decide +kernel
theorem dX3_plain_5 : decode cX3_plain 5 = .ok (.iload 4, 2) := by decide +kernel
theorem dX3_plain_7 : decode cX3_plain 7 = .ok (.invokevirtual 123, 3) := by decide +kernel
theorem dX3_plain_10 : decode cX3_plain 10 = .ok (.ifCond .eq 17, 3) := by decide +kernel
theorem dX3_plain_13 : decode cX3_plain 13 = .ok (.iload 5, 2) := by decide +kernel
theorem dX3_plain_15 : decode cX3_plain 15 = .ok (.iconst 0, 1) := by decide +kernel
theorem dX3_plain_16 : decode cX3_plain 16 = .ok (.iconst 5, 1) := by decide +kernel
theorem dX3_plain_17 : decode cX3_plain 17 = .ok (.invokestatic 66, 3) := by decide +kernel
theorem dX3_plain_20 : decode cX3_plain 20 = .ok (.ifCond .eq 7, 3) := by decide +kernel
theorem dX3_plain_23 : decode cX3_plain 23 = .ok (.iconst 0, 1) := by decide +kernel
theorem dX3_plain_24 : decode cX3_plain 24 = .ok (.goto 4, 3) := by decide +kernel
theorem dX3_plain_27 : decode cX3_plain 27 = .ok (.iconst 1, 1) := by decide +kernel
theorem dX3_plain_28 : decode cX3_plain 28 = .ok (.putfield 59, 3) := by decide +kernel
theorem dX3_plain_31 : decode cX3_plain 31 = .ok (.aload_n 0, 1) := by decide +kernel
theorem dX3_plain_32 : decode cX3_plain 32 = .ok (.getfield 59, 3) := by decide +kernel
theorem dX3_plain_35 : decode cX3_plain 35 = .ok (.ifCond .gt 8, 3) := by decide +kernel
theorem dX3_plain_38 : decode cX3_plain 38 = .ok (.iload_n 2, 1) := by decide +kernel
theorem dX3_plain_39 : decode cX3_plain 39 = .ok (.iload_n 3, 1) := by decide +kernel
theorem dX3_plain_40 : decode cX3_plain 40 = .ok (.if_icmp .ne 5, 3) := by decide +kernel
theorem dX3_plain_43 : decode cX3_plain 43 = .ok (.iconst 0, 1) := by decide +kernel
theorem dX3_plain_44 : decode cX3_plain 44 = .ok (.ireturn, 1) := by decide +kernel
theorem dX3_plain_45 : decode cX3_plain 45 = .ok (.iconst 0, 1) := by decide +kernel
theorem dX3_plain_46 : decode cX3_plain 46 = .ok (.istore 6, 2) := by decide +kernel
theorem dX3_plain_48 : decode cX3_plain 48 = .ok (.iconst 0, 1) := by decide +kernel
theorem dX3_plain_49 : decode cX3_plain 49 = .ok (.istore 7, 2) := by decide +kernel
theorem dX3_plain_51 : decode cX3_plain 51 = .ok (.aload_n 0, 1) := by decide +kernel
theorem dX3_plain_52 : decode cX3_plain 52 = .ok (.getfield 56, 3) := by decide +kernel
theorem dX3_plain_55 : decode cX3_plain 55 = .ok (.iconst 0, 1) := by decide +kernel
theorem dX3_plain_56 : decode cX3_plain 56 = .ok (.iconst (-1), 1) := by decide +kernel
theorem dX3_plain_57 : decode cX3_plain 57 = .ok (.iastore, 1) := by decide +kernel
theorem dX3_plain_58 : decode cX3_plain 58 = .ok (.iload 7, 2) := by decide +kernel
theorem dX3_plain_60 : decode cX3_plain 60 = .ok (.ifCond .lt 117, 3) := by decide +kernel
theorem dX3_plain_63 : decode cX3_plain 63 = .ok (.aload_n 0, 1) := by decide +kernel
theorem dX3_plain_64 : decode cX3_plain 64 = .ok (.getfield 56, 3) := by decide +kernel
theorem dX3_plain_67 : decode cX3_plain 67 = .ok (.iload 7, 2) := by decide +kernel
theorem dX3_plain_69 : decode cX3_plain 69 = .ok (.iaload, 1) := by decide +kernel
theorem dX3_plain_70 : decode cX3_plain 70 = .ok (.iconst 1, 1) := by decide +kernel
theorem dX3_plain_71 : decode cX3_plain 71 = .ok (.iadd, 1) := by decide +kernel
theorem dX3_plain_72 : decode cX3_plain 72 = .ok (.istore 8, 2) := by decide +kernel
theorem dX3_plain_74 : decode cX3_plain 74 = .ok (.iload 8, 2) := by decide +kernel
theorem dX3_plain_76 : decode cX3_plain 76 = .ok (.iconst 2, 1) := by decide +kernel
theorem dX3_plain_77 : decode cX3_plain 77 = .ok (.aload_n 0, 1) := by decide +kernel
theorem dX3_plain_78 : decode cX3_plain 78 = .ok (.getfield 73, 3) := by decide +kernel
theorem dX3_plain_81 : decode cX3_plain 81 = .ok (.imul, 1) := by decide +kernel
theorem dX3_plain_82 : decode cX3_plain 82 = .ok (.if_icmp .ge 24, 3) := by decide +kernel
theorem dX3_plain_85 : decode cX3_plain 85 = .ok (.aload_n 0, 1) := by decide +kernel
theorem dX3_plain_86 : decode cX3_plain 86 = .ok (.iload_n 1, 1) := by decide +kernel
theorem dX3_plain_87 : decode cX3_plain 87 = .ok (.iload_n 2, 1) := by decide +kernel
theorem dX3_plain_88 : decode cX3_plain 88 = .ok (.iload 7, 2) := by decide +kernel
theorem dX3_plain_90 : decode cX3_plain 90 = .ok (.iload 8, 2) := by decide +kernel
theorem dX3_plain_92 : decode cX3_plain 92 = .ok (.iload 4, 2) := by decide +kernel
theorem dX3_plain_94 : decode cX3_plain 94 = .ok (.invokevirtual 144, 3) := by decide +kernel
theorem dX3_plain_97 : decode cX3_plain 97 = .ok (.ifCond .ne 9, 3) := by decide +kernel
theorem dX3_plain_100 : decode cX3_plain 100 = .ok (.iinc 8 1, 3) := by decide +kernel
theorem dX3_plain_103 : decode cX3_plain 103 = .ok (.goto (-29), 3) := by decide +kernel
theorem dX3_plain_106 : decode cX3_plain 106 = .ok (.aload_n 0, 1) := by decide +kernel
theorem dX3_plain_107 : decode cX3_plain 107 = .ok (.getfield 56, 3) := by decide +kernel
theorem dX3_plain_110 : decode cX3_plain 110 = .ok (.iload 7, 2) := by decide +kernel
theorem dX3_plain_112 : decode cX3_plain 112 = .ok (.iload 8, 2) := by decide +kernel
theorem dX3_plain_114 : decode cX3_plain 114 = .ok (.iastore, 1) := by decide +kernel
theorem dX3_plain_115 : decode cX3_plain 115 = .ok (.iload 8, 2) := by decide +kernel
theorem dX3_plain_117 : decode cX3_plain 117 = .ok (.iconst 2, 1) := by decide +kernel
theorem dX3_plain_118 : decode cX3_plain 118 = .ok (.aload_n 0, 1) := by decide +kernel
theorem dX3_plain_119 : decode cX3_plain 119 = .ok (.getfield 73, 3) := by decide +kernel
theorem dX3_plain_122 : decode cX3_plain 122 = .ok (.imul, 1) := by decide +kernel
theorem dX3_plain_123 : decode cX3_plain 123 = .ok (.if_icmp .ne 9, 3) := by decide +kernel
theorem dX3_plain_126 : decode cX3_plain 126 = .ok (.iinc 7 (-1), 3) := by decide +kernel
theorem dX3_plain_129 : decode cX3_plain 129 = .ok (.goto (-71), 3) := by decide +kernel
theorem dX3_plain_132 : decode cX3_plain 132 = .ok (.aload_n 0, 1) := by decide +kernel
theorem dX3_plain_133 : decode cX3_plain 133 = .ok (.iload 8, 2) := by decide +kernel
theorem dX3_plain_135 : decode cX3_plain 135 = .ok (.iconst 2, 1) := by decide +kernel
theorem dX3_plain_136 : decode cX3_plain 136 = .ok (.idiv, 1) := by decide +kernel
theorem dX3_plain_137 : decode cX3_plain 137 = .ok (.iload 8, 2) := by decide +kernel
theorem dX3_plain_139 : decode cX3_plain 139 = .ok (.iconst 2, 1) := by decide +kernel
theorem dX3_plain_140 : decode cX3_plain 140 = .ok (.irem, 1) := by decide +kernel
theorem dX3_plain_141 : decode cX3_plain 141 = .ok (.invokevirtual 95, 3) := by decide +kernel
theorem dX3_plain_144 : decode cX3_plain 144 = .ok (.iconst 2, 1) := by decide +kernel
theorem dX3_plain_145 : decode cX3_plain 145 = .ok (.idiv, 1) := by decide +kernel
theorem dX3_plain_146 : decode cX3_plain 146 = .ok (.iload_n 3, 1) := by decide +kernel
theorem dX3_plain_147 : decode cX3_plain 147 = .ok (.if_icmp .ne 9, 3) := by decide +kernel
theorem dX3_plain_150 : decode cX3_plain 150 = .ok (.iinc 6 1, 3) := by decide +kernel
theorem dX3_plain_153 : decode cX3_plain 153 = .ok (.goto 21, 3) := by decide +kernel
theorem dX3_plain_156 : decode cX3_plain 156 = .ok (.iload 7, 2) := by decide +kernel
theorem dX3_plain_158 : decode cX3_plain 158 = .ok (.iload 5, 2) := by decide +kernel
theorem dX3_plain_160 : decode cX3_plain 160 = .ok (.if_icmp .ge 14, 3) := by decide +kernel
theorem dX3_plain_163 : decode cX3_plain 163 = .ok (.iinc 7 1, 3) := by decide +kernel
theorem dX3_plain_166 : decode cX3_plain 166 = .ok (.aload_n 0, 1) := by decide +kernel
theorem dX3_plain_167 : decode cX3_plain 167 = .ok (.getfield 56, 3) := by decide +kernel
theorem dX3_plain_170 : decode cX3_plain 170 = .ok (.iload 7, 2) := by decide +kernel
theorem dX3_plain_172 : decode cX3_plain 172 = .ok (.iconst (-1), 1) := by decide +kernel
theorem dX3_plain_173 : decode cX3_plain 173 = .ok (.iastore, 1) := by decide +kernel
theorem dX3_plain_174 : decode cX3_plain 174 = .ok (.goto (-116), 3) := by decide +kernel
theorem dX3_plain_177 : decode cX3_plain 177 = .ok (.iload 6, 2) := by decide +kernel
theorem dX3_plain_179 : decode cX3_plain 179 = .ok (.ireturn, 1) := by decide +kernel
set_option maxRecDepth 20000 in
theorem ggX3_count_X3_bits : GoodIn wsX3_count wsX3_bits := goodIn_r _ [10] (by decide +kernel) (by decide +kernel)
set_option maxRecDepth 20000 in
theorem gX3_count_X3_bits : GoodIn wsX3_count (va_wsS RX3 88 yX3_bits wsX3_bits) := goodIn_app (goodIn_of _ (by decide +kernel)) ggX3_count_X3_bits
theorem dX3_count_0 : decode cX3_count 0 = .ok (.aload_n 0, 1) := by decide +kernel
theorem dX3_count_1 : decode cX3_count 1 = .ok (.iconst 0, 1) := by decide +kernel
theorem dX3_count_2 : decode cX3_count 2 = .ok (.putfield 59, 3) := by decide +kernel
theorem dX3_count_5 : decode cX3_count 5 = .ok (.iload_n 1, 1) := by decide +kernel
theorem dX3_count_6 : decode cX3_count 6 = .ok (.ifCond .ne 8, 3) := by decide +kernel
theorem dX3_count_9 : decode cX3_count 9 = .ok (.aload_n 0, 1) := by decide +kernel
theorem dX3_count_10 : decode cX3_count 10 = .ok (.getfield 63, 3) := by decide +kernel
theorem dX3_count_13 : decode cX3_count 13 = .ok (.ireturn, 1) := by decide +kernel
theorem dX3_count_14 : decode cX3_count 14 = .ok (.iload_n 1, 1) := by decide +kernel
theorem dX3_count_15 : decode cX3_count 15 = .ok (.iconst 1, 1) := by decide +kernel
theorem dX3_count_16 : decode cX3_count 16 = .ok (.if_icmp .ne 8, 3) := by decide +kernel
theorem dX3_count_19 : decode cX3_count 19 = .ok (.aload_n 0, 1) := by decide +kernel
theorem dX3_count_20 : decode cX3_count 20 = .ok (.getfield 73, 3) := by decide +kernel
theorem dX3_count_23 : decode cX3_count 23 = .ok (.ireturn, 1) := by decide +kernel
theorem dX3_count_24 : decode cX3_count 24 = .ok (.iload_n 1, 1) := by decide +kernel
theorem dX3_count_25 : decode cX3_count 25 = .ok (.iconst 2, 1) := by decide +kernel
theorem dX3_count_26 : decode cX3_count 26 = .ok (.if_icmp .ne 8, 3) := by decide +kernel
theorem dX3_count_29 : decode cX3_count 29 = .ok (.aload_n 0, 1) := by decide +kernel
theorem dX3_count_30 : decode cX3_count 30 = .ok (.getfield 92, 3) := by decide +kernel
theorem dX3_count_33 : decode cX3_count 33 = .ok (.ireturn, 1) := by decide +kernel
theorem dX3_count_34 : decode cX3_count 34 = .ok (.iload_n 1, 1) := by decide +kernel
theorem dX3_count_35 : decode cX3_count 35 = .ok (.iconst 3, 1) := by decide +kernel
theorem dX3_count_36 : decode cX3_count 36 = .ok (.if_icmp .ne 8, 3) := by decide +kernel
theorem dX3_count_39 : decode cX3_count 39 = .ok (.aload_n 0, 1) := by decide +kernel
theorem dX3_count_40 : decode cX3_count 40 = .ok (.getfield 138, 3) := by decide +kernel
theorem dX3_count_43 : decode cX3_count 43 = .ok (.ireturn, 1) := by decide +kernel
theorem dX3_count_44 : decode cX3_count 44 = .ok (.iconst 0, 1) := by decide +kernel
theorem dX3_count_45 : decode cX3_count 45 = .ok (.istore_n 2, 1) := by decide +kernel
theorem dX3_count_46 : decode cX3_count 46 = .ok (.iconst 0, 1) := by decide +kernel
theorem dX3_count_47 : decode cX3_count 47 = .ok (.istore_n 3, 1) := by decide +kernel
theorem dX3_count_48 : decode cX3_count 48 = .ok (.iload_n 3, 1) := by decide +kernel
theorem dX3_count_49 : decode cX3_count 49 = .ok (.aload_n 0, 1) := by decide +kernel
theorem dX3_count_50 : decode cX3_count 50 = .ok (.getfield 73, 3) := by decide +kernel
theorem dX3_count_53 : decode cX3_count 53 = .ok (.if_icmp .ge 21, 3) := by decide +kernel
theorem dX3_count_56 : decode cX3_count 56 = .ok (.iload_n 2, 1) := by decide +kernel
theorem dX3_count_57 : decode cX3_count 57 = .ok (.aload_n 0, 1) := by decide +kernel
theorem dX3_count_58 : decode cX3_count 58 = .ok (.getfield 38, 3) := by decide +kernel
theorem dX3_count_61 : decode cX3_count 61 = .ok (.iload_n 3, 1) := by decide +kernel
theorem dX3_count_62 : decode cX3_count 62 = .ok (.iaload, 1) := by decide +kernel
theorem dX3_count_63 : decode cX3_count 63 = .ok (.invokestatic 88, 3) := by decide +kernel
theorem dX3_count_66 : decode cX3_count 66 = .ok (.iadd, 1) := by decide +kernel
theorem dX3_count_67 : decode cX3_count 67 = .ok (.istore_n 2, 1) := by decide +kernel
theorem dX3_count_68 : decode cX3_count 68 = .ok (.iinc 3 1, 3) := by decide +kernel
theorem dX3_count_71 : decode cX3_count 71 = .ok (.goto (-23), 3) := by decide +kernel
theorem dX3_count_74 : decode cX3_count 74 = .ok (.iload_n 1, 1) := by decide +kernel
theorem dX3_count_75 : decode cX3_count 75 = .ok (.iconst 4, 1) := by decide +kernel
theorem dX3_count_76 : decode cX3_count 76 = .ok (.if_icmp .ne 7, 3) := by decide +kernel
theorem dX3_count_79 : decode cX3_count 79 = .ok (.iload_n 2, 1) := by decide +kernel
theorem dX3_count_80 : decode cX3_count 80 = .ok (.goto 4, 3) := by decide +kernel
theorem dX3_count_83 : decode cX3_count 83 = .ok (.iconst (-1), 1) := by decide +kernel
theorem dX3_count_84 : decode cX3_count 84 = .ok (.ireturn, 1) := by decide +kernel
theorem dJx00060_init_a7421_0 : decode cJx00060_init_a7421 0 = .ok (.aload_n 0, 1) := by decide +kernel
theorem dJx00060_init_a7421_1 : decode cJx00060_init_a7421 1 = .ok (.aload_n 1, 1) := by decide +kernel
theorem dJx00060_init_a7421_2 : decode cJx00060_init_a7421 2 = .ok (.invokespecial 7, 3) := by decide +kernel
theorem dJx00060_init_a7421_5 : decode cJx00060_init_a7421 5 = .ok (.return_, 1) := by decide +kernel
theorem dJ6_bitCount_0f7a4_0 : decode cJ6_bitCount_0f7a4 0 = .ok (.iload_n 0, 1) := by decide +kernel
theorem dJ6_bitCount_0f7a4_1 : decode cJ6_bitCount_0f7a4 1 = .ok (.iload_n 0, 1) := by decide +kernel
theorem dJ6_bitCount_0f7a4_2 : decode cJ6_bitCount_0f7a4 2 = .ok (.iconst 1, 1) := by decide +kernel
theorem dJ6_bitCount_0f7a4_3 : decode cJ6_bitCount_0f7a4 3 = .ok (.iushr, 1) := by decide +kernel
theorem dJ6_bitCount_0f7a4_4 : decode cJ6_bitCount_0f7a4 4 = .ok (.ldc_w 265, 3) := by decide +kernel
theorem dJ6_bitCount_0f7a4_7 : decode cJ6_bitCount_0f7a4 7 = .ok (.iand, 1) := by decide +kernel
theorem dJ6_bitCount_0f7a4_8 : decode cJ6_bitCount_0f7a4 8 = .ok (.isub, 1) := by decide +kernel
theorem dJ6_bitCount_0f7a4_9 : decode cJ6_bitCount_0f7a4 9 = .ok (.istore_n 0, 1) := by decide +kernel
theorem dJ6_bitCount_0f7a4_10 : decode cJ6_bitCount_0f7a4 10 = .ok (.iload_n 0, 1) := by decide +kernel
theorem dJ6_bitCount_0f7a4_11 : decode cJ6_bitCount_0f7a4 11 = .ok (.ldc_w 266, 3) := by decide +kernel
theorem dJ6_bitCount_0f7a4_14 : decode cJ6_bitCount_0f7a4 14 = .ok (.iand, 1) := by decide +kernel
theorem dJ6_bitCount_0f7a4_15 : decode cJ6_bitCount_0f7a4 15 = .ok (.iload_n 0, 1) := by decide +kernel
theorem dJ6_bitCount_0f7a4_16 : decode cJ6_bitCount_0f7a4 16 = .ok (.iconst 2, 1) := by decide +kernel
theorem dJ6_bitCount_0f7a4_17 : decode cJ6_bitCount_0f7a4 17 = .ok (.iushr, 1) := by decide +kernel
theorem dJ6_bitCount_0f7a4_18 : decode cJ6_bitCount_0f7a4 18 = .ok (.ldc_w 266, 3) := by decide +kernel
theorem dJ6_bitCount_0f7a4_21 : decode cJ6_bitCount_0f7a4 21 = .ok (.iand, 1) := by decide +kernel
theorem dJ6_bitCount_0f7a4_22 : decode cJ6_bitCount_0f7a4 22 = .ok (.iadd, 1) := by decide +kernel
theorem dJ6_bitCount_0f7a4_23 : decode cJ6_bitCount_0f7a4 23 = .ok (.istore_n 0, 1) := by decide +kernel
theorem dJ6_bitCount_0f7a4_24 : decode cJ6_bitCount_0f7a4 24 = .ok (.iload_n 0, 1) := by decide +kernel
theorem dJ6_bitCount_0f7a4_25 : decode cJ6_bitCount_0f7a4 25 = .ok (.iload_n 0, 1) := by decide +kernel
theorem dJ6_bitCount_0f7a4_26 : decode cJ6_bitCount_0f7a4 26 = .ok (.iconst 4, 1) := by decide +kernel
theorem dJ6_bitCount_0f7a4_27 : decode cJ6_bitCount_0f7a4 27 = .ok (.iushr, 1) := by decide +kernel
theorem dJ6_bitCount_0f7a4_28 : decode cJ6_bitCount_0f7a4 28 = .ok (.iadd, 1) := by decide +kernel
theorem dJ6_bitCount_0f7a4_29 : decode cJ6_bitCount_0f7a4 29 = .ok (.ldc_w 267, 3) := by decide +kernel
theorem dJ6_bitCount_0f7a4_32 : decode cJ6_bitCount_0f7a4 32 = .ok (.iand, 1) := by decide +kernel
theorem dJ6_bitCount_0f7a4_33 : decode cJ6_bitCount_0f7a4 33 = .ok (.istore_n 0, 1) := by decide +kernel
theorem dJ6_bitCount_0f7a4_34 : decode cJ6_bitCount_0f7a4 34 = .ok (.iload_n 0, 1) := by decide +kernel
theorem dJ6_bitCount_0f7a4_35 : decode cJ6_bitCount_0f7a4 35 = .ok (.iload_n 0, 1) := by decide +kernel
theorem dJ6_bitCount_0f7a4_36 : decode cJ6_bitCount_0f7a4 36 = .ok (.bipush 8, 2) := by decide +kernel
theorem dJ6_bitCount_0f7a4_38 : decode cJ6_bitCount_0f7a4 38 = .ok (.iushr, 1) := by decide +kernel
theorem dJ6_bitCount_0f7a4_39 : decode cJ6_bitCount_0f7a4 39 = .ok (.iadd, 1) := by decide +kernel
theorem dJ6_bitCount_0f7a4_40 : decode cJ6_bitCount_0f7a4 40 = .ok (.istore_n 0, 1) := by decide +kernel
theorem dJ6_bitCount_0f7a4_41 : decode cJ6_bitCount_0f7a4 41 = .ok (.iload_n 0, 1) := by decide +kernel
theorem dJ6_bitCount_0f7a4_42 : decode cJ6_bitCount_0f7a4 42 = .ok (.iload_n 0, 1) := by decide +kernel
theorem dJ6_bitCount_0f7a4_43 : decode cJ6_bitCount_0f7a4 43 = .ok (.bipush 16, 2) := by decide +kernel
theorem dJ6_bitCount_0f7a4_45 : decode cJ6_bitCount_0f7a4 45 = .ok (.iushr, 1) := by decide +kernel
theorem dJ6_bitCount_0f7a4_46 : decode cJ6_bitCount_0f7a4 46 = .ok (.iadd, 1) := by decide +kernel
theorem dJ6_bitCount_0f7a4_47 : decode cJ6_bitCount_0f7a4 47 = .ok (.istore_n 0, 1) := by decide +kernel
theorem dJ6_bitCount_0f7a4_48 : decode cJ6_bitCount_0f7a4 48 = .ok (.iload_n 0, 1) := by decide +kernel
theorem dJ6_bitCount_0f7a4_49 : decode cJ6_bitCount_0f7a4 49 = .ok (.bipush 63, 2) := by decide +kernel
theorem dJ6_bitCount_0f7a4_51 : decode cJ6_bitCount_0f7a4 51 = .ok (.iand, 1) := by decide +kernel
theorem dJ6_bitCount_0f7a4_52 : decode cJ6_bitCount_0f7a4 52 = .ok (.ireturn, 1) := by decide +kernel
theorem dJ7_fill_53178_0 : decode cJ7_fill_53178 0 = .ok (.iconst 0, 1) := by decide +kernel
theorem dJ7_fill_53178_1 : decode cJ7_fill_53178 1 = .ok (.istore_n 2, 1) := by decide +kernel
theorem dJ7_fill_53178_2 : decode cJ7_fill_53178 2 = .ok (.aload_n 0, 1) := by decide +kernel
theorem dJ7_fill_53178_3 : decode cJ7_fill_53178 3 = .ok (.arraylength, 1) := by decide +kernel
theorem dJ7_fill_53178_4 : decode cJ7_fill_53178 4 = .ok (.istore_n 3, 1) := by decide +kernel
theorem dJ7_fill_53178_5 : decode cJ7_fill_53178 5 = .ok (.iload_n 2, 1) := by decide +kernel
theorem dJ7_fill_53178_6 : decode cJ7_fill_53178 6 = .ok (.iload_n 3, 1) := by decide +kernel
theorem dJ7_fill_53178_7 : decode cJ7_fill_53178 7 = .ok (.if_icmp .ge 13, 3) := by decide +kernel
theorem dJ7_fill_53178_10 : decode cJ7_fill_53178 10 = .ok (.aload_n 0, 1) := by decide +kernel
theorem dJ7_fill_53178_11 : decode cJ7_fill_53178 11 = .ok (.iload_n 2, 1) := by decide +kernel
theorem dJ7_fill_53178_12 : decode cJ7_fill_53178 12 = .ok (.iload_n 1, 1) := by decide +kernel
theorem dJ7_fill_53178_13 : decode cJ7_fill_53178 13 = .ok (.iastore, 1) := by decide +kernel
theorem dJ7_fill_53178_14 : decode cJ7_fill_53178 14 = .ok (.iinc 2 1, 3) := by decide +kernel
theorem dJ7_fill_53178_17 : decode cJ7_fill_53178 17 = .ok (.goto (-12), 3) := by decide +kernel
theorem dJ7_fill_53178_20 : decode cJ7_fill_53178 20 = .ok (.return_, 1) := by decide +kernel
end
section
/-! Rows over numbers: an Int32 as nI of a Nat; branches give facts of Nat. -/
section NA
variable {p : Program} {l : Launch} {e : Env} {R : Room} {s : State} {m : MethodId} {args : Array Value} {below : List Frame} {meth : Method} {c : Code} {H : Heap} {locs : List Loc} {cells slots : Nat} {Q : State → Prop}
variable {cc : ByteArray} {pc : Nat} {ls : Array Slot} {rest : List Value} {D : va_G} {cl : List vw_C} {A : Nat → Prop} {a : Nat} {tys : List (ClassId × FieldType)} {ws : va_W} {H0 : Heap}
theorem na_as {x y : Int32} (h : x = y) (k : W p l e R s m args below meth c H locs cells slots Q (F0 m pc ls (.int y :: rest))) : W p l e R s m args below meth c H locs cells slots Q (F0 m pc ls (.int x :: rest)) := by
  subst h
  exact k
theorem na_iadd (hexec : p.tables.exec = Jvm.exec) (hb : c.code = cc) {x y : Nat} (hdg : decode cc pc = .ok (.iadd, 1)) (k : W p l e R s m args below meth c H locs cells slots Q (F0 m (pc + 1) ls (.int (nI (x + y)) :: rest))) : W p l e R s m args below meth c H locs cells slots Q (F0 m pc ls (.int (nI y) :: .int (nI x) :: rest)) :=
  lv_iadd hexec hb hdg (na_as (nI_add x y) k)
theorem na_isub (hexec : p.tables.exec = Jvm.exec) (hb : c.code = cc) {x y : Nat} (h : y ≤ x) (hdg : decode cc pc = .ok (.isub, 1)) (k : W p l e R s m args below meth c H locs cells slots Q (F0 m (pc + 1) ls (.int (nI (x - y)) :: rest))) : W p l e R s m args below meth c H locs cells slots Q (F0 m pc ls (.int (nI y) :: .int (nI x) :: rest)) :=
  lv_isub hexec hb hdg (na_as (pk_sub h) k)
theorem na_imul (hexec : p.tables.exec = Jvm.exec) (hb : c.code = cc) {x y : Nat} (hdg : decode cc pc = .ok (.imul, 1)) (k : W p l e R s m args below meth c H locs cells slots Q (F0 m (pc + 1) ls (.int (nI (x * y)) :: rest))) : W p l e R s m args below meth c H locs cells slots Q (F0 m pc ls (.int (nI y) :: .int (nI x) :: rest)) :=
  lv_imul hexec hb hdg (na_as (pk_mul x y) k)
theorem na_lt {x y : Nat} (hx : x < 2 ^ 31) (hy : y < 2 ^ 31) : nI x < nI y ↔ x < y := nI_ltI hx hy
theorem na_icmp_lt (hexec : p.tables.exec = Jvm.exec) (hb : c.code = cc) {x y : Nat} {off : Int} {tgt : Nat} (hx : x < 2 ^ 31) (hy : y < 2 ^ 31) (hdg : decode cc pc = .ok (.if_icmp .lt off, 3)) (ht : (pc : Int) + off = (tgt : Int))
    (kt : x < y → W p l e R s m args below meth c H locs cells slots Q (F0 m tgt ls rest)) (kf : y ≤ x → W p l e R s m args below meth c H locs cells slots Q (F0 m (pc + 3) ls rest)) : W p l e R s m args below meth c H locs cells slots Q (F0 m pc ls (.int (nI y) :: .int (nI x) :: rest)) :=
  lv_icmp_lt hexec hb hdg ht (fun h => kt ((nI_ltI hx hy).mp h)) (fun h => kf (Nat.le_of_not_lt fun q => h ((nI_ltI hx hy).mpr q)))
theorem na_icmp_ge (hexec : p.tables.exec = Jvm.exec) (hb : c.code = cc) {x y : Nat} {off : Int} {tgt : Nat} (hx : x < 2 ^ 31) (hy : y < 2 ^ 31) (hdg : decode cc pc = .ok (.if_icmp .ge off, 3)) (ht : (pc : Int) + off = (tgt : Int))
    (kt : y ≤ x → W p l e R s m args below meth c H locs cells slots Q (F0 m tgt ls rest)) (kf : x < y → W p l e R s m args below meth c H locs cells slots Q (F0 m (pc + 3) ls rest)) : W p l e R s m args below meth c H locs cells slots Q (F0 m pc ls (.int (nI y) :: .int (nI x) :: rest)) :=
  lv_icmp_ge hexec hb hdg ht (fun h => kt ((nI_leI hy hx).mp h)) (fun h => kf (Nat.lt_of_not_le fun q => h ((nI_leI hy hx).mpr q)))
theorem na_icmp_gt (hexec : p.tables.exec = Jvm.exec) (hb : c.code = cc) {x y : Nat} {off : Int} {tgt : Nat} (hx : x < 2 ^ 31) (hy : y < 2 ^ 31) (hdg : decode cc pc = .ok (.if_icmp .gt off, 3)) (ht : (pc : Int) + off = (tgt : Int))
    (kt : y < x → W p l e R s m args below meth c H locs cells slots Q (F0 m tgt ls rest)) (kf : x ≤ y → W p l e R s m args below meth c H locs cells slots Q (F0 m (pc + 3) ls rest)) : W p l e R s m args below meth c H locs cells slots Q (F0 m pc ls (.int (nI y) :: .int (nI x) :: rest)) :=
  lv_icmp_gt hexec hb hdg ht (fun h => kt ((nI_ltI hy hx).mp h)) (fun h => kf (Nat.le_of_not_lt fun q => h ((nI_ltI hy hx).mpr q)))
theorem na_icmp_le (hexec : p.tables.exec = Jvm.exec) (hb : c.code = cc) {x y : Nat} {off : Int} {tgt : Nat} (hx : x < 2 ^ 31) (hy : y < 2 ^ 31) (hdg : decode cc pc = .ok (.if_icmp .le off, 3)) (ht : (pc : Int) + off = (tgt : Int))
    (kt : x ≤ y → W p l e R s m args below meth c H locs cells slots Q (F0 m tgt ls rest)) (kf : y < x → W p l e R s m args below meth c H locs cells slots Q (F0 m (pc + 3) ls rest)) : W p l e R s m args below meth c H locs cells slots Q (F0 m pc ls (.int (nI y) :: .int (nI x) :: rest)) :=
  lv_icmp_le hexec hb hdg ht (fun h => kt ((nI_leI hx hy).mp h)) (fun h => kf (Nat.lt_of_not_le fun q => h ((nI_leI hx hy).mpr q)))
theorem na_icmp_eq (hexec : p.tables.exec = Jvm.exec) (hb : c.code = cc) {x y : Nat} {off : Int} {tgt : Nat} (hx : x < 2 ^ 31) (hy : y < 2 ^ 31) (hdg : decode cc pc = .ok (.if_icmp .eq off, 3)) (ht : (pc : Int) + off = (tgt : Int))
    (kt : x = y → W p l e R s m args below meth c H locs cells slots Q (F0 m tgt ls rest)) (kf : x ≠ y → W p l e R s m args below meth c H locs cells slots Q (F0 m (pc + 3) ls rest)) : W p l e R s m args below meth c H locs cells slots Q (F0 m pc ls (.int (nI y) :: .int (nI x) :: rest)) :=
  lv_icmp_eq hexec hb hdg ht (fun h => kt ((nI_eq hx hy).mp h)) (fun h => kf (fun q => h ((nI_eq hx hy).mpr q)))
theorem na_icmp_ne (hexec : p.tables.exec = Jvm.exec) (hb : c.code = cc) {x y : Nat} {off : Int} {tgt : Nat} (hx : x < 2 ^ 31) (hy : y < 2 ^ 31) (hdg : decode cc pc = .ok (.if_icmp .ne off, 3)) (ht : (pc : Int) + off = (tgt : Int))
    (kt : x ≠ y → W p l e R s m args below meth c H locs cells slots Q (F0 m tgt ls rest)) (kf : x = y → W p l e R s m args below meth c H locs cells slots Q (F0 m (pc + 3) ls rest)) : W p l e R s m args below meth c H locs cells slots Q (F0 m pc ls (.int (nI y) :: .int (nI x) :: rest)) :=
  lv_icmp_ne hexec hb hdg ht (fun h => kt (fun q => h ((nI_eq hx hy).mpr q))) (fun h => kf ((nI_eq hx hy).mp h))
theorem na_if_eq (hexec : p.tables.exec = Jvm.exec) (hb : c.code = cc) {x : Nat} {off : Int} {tgt : Nat} (hx : x < 2 ^ 31) (hdg : decode cc pc = .ok (.ifCond .eq off, 3)) (ht : (pc : Int) + off = (tgt : Int))
    (kt : x = 0 → W p l e R s m args below meth c H locs cells slots Q (F0 m tgt ls rest)) (kf : 0 < x → W p l e R s m args below meth c H locs cells slots Q (F0 m (pc + 3) ls rest)) : W p l e R s m args below meth c H locs cells slots Q (F0 m pc ls (.int (nI x) :: rest)) :=
  lv_if_eq hexec hb hdg ht (fun h => kt ((nI_eq hx (by decide : 0 < 2 ^ 31)).mp (h.trans nI_0.symm))) (fun h => kf (Nat.pos_of_ne_zero fun q => h (by rw [q]; exact nI_0)))
theorem na_if_ne (hexec : p.tables.exec = Jvm.exec) (hb : c.code = cc) {x : Nat} {off : Int} {tgt : Nat} (hx : x < 2 ^ 31) (hdg : decode cc pc = .ok (.ifCond .ne off, 3)) (ht : (pc : Int) + off = (tgt : Int))
    (kt : 0 < x → W p l e R s m args below meth c H locs cells slots Q (F0 m tgt ls rest)) (kf : x = 0 → W p l e R s m args below meth c H locs cells slots Q (F0 m (pc + 3) ls rest)) : W p l e R s m args below meth c H locs cells slots Q (F0 m pc ls (.int (nI x) :: rest)) :=
  lv_if_ne hexec hb hdg ht (fun h => kt (Nat.pos_of_ne_zero fun q => h (by rw [q]; exact nI_0))) (fun h => kf ((nI_eq hx (by decide : 0 < 2 ^ 31)).mp (h.trans nI_0.symm)))
theorem na_if_le (hexec : p.tables.exec = Jvm.exec) (hb : c.code = cc) {x : Nat} {off : Int} {tgt : Nat} (hx : x < 2 ^ 31) (hdg : decode cc pc = .ok (.ifCond .le off, 3)) (ht : (pc : Int) + off = (tgt : Int))
    (kt : x = 0 → W p l e R s m args below meth c H locs cells slots Q (F0 m tgt ls rest)) (kf : 0 < x → W p l e R s m args below meth c H locs cells slots Q (F0 m (pc + 3) ls rest)) : W p l e R s m args below meth c H locs cells slots Q (F0 m pc ls (.int (nI x) :: rest)) :=
  lv_if_le hexec hb hdg ht (fun h => kt (Nat.le_zero.mp ((nI_leI hx (by decide : 0 < 2 ^ 31)).mp (by rw [nI_0]; exact h)))) (fun h => kf (Nat.pos_of_ne_zero fun q => h (by rw [q, nI_0]; decide)))
/-- a place of an array of ints, by a Nat -/
theorem na_iald (hexec : p.tables.exec = Jvm.exec) (hb : c.code = cc) (hK : va_K D cl tys s) (hP : va_P D cl ws H) (q0 t0 : Nat) {cA : ClassId} {n i : Nat} {f : Nat → Int32} (ha : ws[q0]? = some (a, .inl (cA, n, .inl f))) (ht : tys[t0]? = some (cA, .int)) (hi : i < n) (hn : n < 2 ^ 31) (hdg : decode cc pc = .ok (.iaload, 1))
    (kk : W p l e R s m args below meth c H locs cells slots Q (F0 m (pc + 1) ls (.int (f i) :: rest))) : W p l e R s m args below meth c H locs cells slots Q (F0 m pc ls (.int (nI i) :: .ref a :: rest)) :=
  va_iald hexec hb hK hP q0 t0 ha ht (vp_in_nI hi hn) hdg (by rw [nI_clamp (by omega)]; exact kk)
theorem na_zald (hexec : p.tables.exec = Jvm.exec) (hb : c.code = cc) (hK : va_K D cl tys s) (hP : va_P D cl ws H) (q0 t0 : Nat) {cA : ClassId} {n i : Nat} {f : Nat → Int32} (ha : ws[q0]? = some (a, .inl (cA, n, .inl f))) (ht : tys[t0]? = some (cA, .boolean)) (hi : i < n) (hn : n < 2 ^ 31) (hdg : decode cc pc = .ok (.baload, 1))
    (kk : W p l e R s m args below meth c H locs cells slots Q (F0 m (pc + 1) ls (.int (f i) :: rest))) : W p l e R s m args below meth c H locs cells slots Q (F0 m pc ls (.int (nI i) :: .ref a :: rest)) :=
  va_zald hexec hb hK hP q0 t0 ha ht (vp_in_nI hi hn) hdg (by rw [nI_clamp (by omega)]; exact kk)
theorem na_iast (hexec : p.tables.exec = Jvm.exec) (hb : c.code = cc) (hK : va_K D cl tys s) (hP : va_P D cl ws H) (hD : va_D A ws) (hS : va_S A H0 H locs) (q0 t0 : Nat) {cA : ClassId} {n i : Nat} {f g : Nat → Int32} (ha : ws[q0]? = some (a, .inl (cA, n, .inl f))) (ht : tys[t0]? = some (cA, .int)) {x : Int32} (hi : i < n) (hn : n < 2 ^ 31) (hu : upd f i x = g) (hdg : decode cc pc = .ok (.iastore, 1))
    (kk : ∀ (H1 : Heap) (locs1 : List Loc), va_P D cl (ws.set q0 (a, .inl (cA, n, .inl g))) H1 → va_D A (ws.set q0 (a, .inl (cA, n, .inl g))) → va_S A H0 H1 locs1 → W p l e R s m args below meth c H1 locs1 cells slots Q (F0 m (pc + 1) ls rest)) : W p l e R s m args below meth c H locs cells slots Q (F0 m pc ls (.int x :: .int (nI i) :: .ref a :: rest)) := by
  subst hu
  refine va_iast hexec hb hK hP hD hS q0 t0 ha ht (vp_in_nI hi hn) hdg (fun H1 locs1 h1 h2 h3 => ?_)
  rw [nI_clamp (by omega)] at h1 h2
  exact kk H1 locs1 h1 h2 h3
theorem na_narZ : ∀ v : Nat, v ≤ 1 → vp_nar .boolean (nI v) = nI v := by
  intro v hv
  rcases (show v = 0 ∨ v = 1 by omega) with rfl | rfl <;> decide
theorem na_zast (hexec : p.tables.exec = Jvm.exec) (hb : c.code = cc) (hK : va_K D cl tys s) (hP : va_P D cl ws H) (hD : va_D A ws) (hS : va_S A H0 H locs) (q0 t0 : Nat) {cA : ClassId} {n i v : Nat} {f g : Nat → Int32} (ha : ws[q0]? = some (a, .inl (cA, n, .inl f))) (ht : tys[t0]? = some (cA, .boolean)) (hv : v ≤ 1) (hi : i < n) (hn : n < 2 ^ 31) (hu : upd f i (nI v) = g) (hdg : decode cc pc = .ok (.bastore, 1))
    (kk : ∀ (H1 : Heap) (locs1 : List Loc), va_P D cl (ws.set q0 (a, .inl (cA, n, .inl g))) H1 → va_D A (ws.set q0 (a, .inl (cA, n, .inl g))) → va_S A H0 H1 locs1 → W p l e R s m args below meth c H1 locs1 cells slots Q (F0 m (pc + 1) ls rest)) : W p l e R s m args below meth c H locs cells slots Q (F0 m pc ls (.int (nI v) :: .int (nI i) :: .ref a :: rest)) := by
  subst hu
  refine va_zast hexec hb hK hP hD hS q0 t0 ha ht (vp_in_nI hi hn) hdg (fun H1 locs1 h1 h2 h3 => ?_)
  rw [nI_clamp (by omega), na_narZ v hv] at h1 h2
  exact kk H1 locs1 h1 h2 h3
theorem na_idiv2 (hexec : p.tables.exec = Jvm.exec) (hb : c.code = cc) {x : Nat} (hx : x < 2 ^ 31) (hdg : decode cc pc = .ok (.idiv, 1)) (k : W p l e R s m args below meth c H locs cells slots Q (F0 m (pc + 1) ls (.int (nI (x / 2)) :: rest))) : W p l e R s m args below meth c H locs cells slots Q (F0 m pc ls (.int (nI 2) :: .int (nI x) :: rest)) :=
  lv_idiv hexec hb hdg (by decide) (na_as (pk_div hx (by decide) (by decide)) k)
theorem na_irem2 (hexec : p.tables.exec = Jvm.exec) (hb : c.code = cc) {x : Nat} (hx : x < 2 ^ 31) (hdg : decode cc pc = .ok (.irem, 1)) (k : W p l e R s m args below meth c H locs cells slots Q (F0 m (pc + 1) ls (.int (nI (x % 2)) :: rest))) : W p l e R s m args below meth c H locs cells slots Q (F0 m pc ls (.int (nI 2) :: .int (nI x) :: rest)) :=
  lv_irem hexec hb hdg (by decide) (na_as (pk_rem hx (by decide) (by decide)) k)
end NA
end
section
/-! THE STATE. S : Nat → Nat → Nat is what both sides hold: S 0 the counts (0 pieces, 1 passages = twice the joins, 2 robots, 3 chargers, 4 changes, 5 rows worked, 6 way's size), 1 levels, 2 lengths, 3 widths, 4 two-way, 5 closed, 6 zone's hours, 7 starts, 8 goals, 9 turning seconds, 10 barred (7 to 10 by passage), 11 robots' widths, 12 chargers, 13 when a row was worked, 14 the way, last piece first.
c: the system's own: 0 ways that are free, 1 reached, 2 met, 3 how many leave an end, 10 .. 49 which leave it, 50 .. 57 the table's rows. m: the reference's own: 0 code, 1 reached, 2 on. -/
def up1 (f : Nat → Nat) (i v : Nat) : Nat → Nat := fun j => if j = i then v else f j
def upR (S : Nat → Nat → Nat) (f : Nat) (a : Nat → Nat) : Nat → Nat → Nat := fun g j => if g = f then a j else S g j
def up2 (S : Nat → Nat → Nat) (f i v : Nat) : Nat → Nat → Nat := upR S f (up1 (S f) i v)
def rI (v : Nat) : Int32 := if v = 1000000 then -1 else nI v
def zI (v : Nat) : Int32 := if v = 0 then -1 else nI v
def pI (v : Nat) : Int32 := nI v - 1
def bN (b : Bool) : Nat := if b = true then 1 else 0
def fl (e : Nat) : Nat := if e % 2 = 0 then e + 1 else e - 1
theorem bN_le (b : Bool) : bN b ≤ 1 := by cases b <;> decide
theorem bN_t : bN true = 1 := rfl
theorem bN_f : bN false = 0 := rfl
theorem upd_enc (g : Nat → Int32) (f : Nat → Nat) (i v : Nat) : upd (fun j => g (f j)) i (g v) = fun j => g (up1 f i v j) := by
  funext j
  unfold upd up1
  split <;> rfl
theorem upd_nI (f : Nat → Nat) (i v : Nat) : upd (fun j => nI (f j)) i (nI v) = fun j => nI (up1 f i v j) := upd_enc nI f i v
theorem up1_same (f : Nat → Nat) (i v : Nat) : up1 f i v i = v := if_pos rfl
theorem up1_ne (f : Nat → Nat) {i j : Nat} (v : Nat) (h : j ≠ i) : up1 f i v j = f j := if_neg h
theorem up1_id (f : Nat → Nat) (i : Nat) : up1 f i (f i) = f := by
  funext j
  unfold up1
  split
  · rename_i h; rw [h]
  · rfl
theorem upR_same (S : Nat → Nat → Nat) (f : Nat) (a : Nat → Nat) : upR S f a f = a := by
  funext j
  exact if_pos rfl
theorem upR_ne (S : Nat → Nat → Nat) {f g : Nat} (a : Nat → Nat) (h : g ≠ f) : upR S f a g = S g := by
  funext j
  exact if_neg h
theorem upR_id (S : Nat → Nat → Nat) (f : Nat) : upR S f (S f) = S := by
  funext g j
  unfold upR
  split
  · rename_i h; rw [h]
  · rfl
theorem upR_upR (S : Nat → Nat → Nat) (f : Nat) (a b : Nat → Nat) : upR (upR S f a) f b = upR S f b := by
  funext g j
  unfold upR
  split <;> rfl
theorem up2_same (S : Nat → Nat → Nat) (f i v : Nat) : up2 S f i v f i = v := by simp [up2, upR, up1]
theorem up2_row (S : Nat → Nat → Nat) {f g : Nat} (i v : Nat) (h : g ≠ f) (j : Nat) : up2 S f i v g j = S g j := by simp [up2, upR, h]
theorem up2_ne (S : Nat → Nat → Nat) (f : Nat) {i j : Nat} (v : Nat) (h : j ≠ i) : up2 S f i v f j = S f j := by simp [up2, upR, up1, h]
theorem nI_2p31 {n : Nat} (h : n ≤ 2000000) : n < 2 ^ 31 := by omega
/-- may a piece be left by this end; may a robot of width w come in by it at hour h -/
def mvL (S : Nat → Nat → Nat) (e : Nat) : Bool := decide (e % 2 = 1) || decide (S 4 (e / 2) = 1)
def mvE (S : Nat → Nat → Nat) (w h e : Nat) : Bool := decide (S 5 (e / 2) = 0) && decide (S 6 (e / 2) / 2 ^ h % 2 = 0) && decide (w ≤ S 3 (e / 2)) && (decide (e % 2 = 0) || decide (S 4 (e / 2) = 1))
def opn (S : Nat → Nat → Nat) (w h p : Nat) : Bool := decide (S 10 p = 0) && mvE S w h (S 8 p)
/-- when a piece is come into by the passage p, and when its other end is reached by it -/
def sAt (S : Nat → Nat → Nat) (o : Nat → Bool) (r : Nat → Nat) (p : Nat) : Nat := if o p = true ∧ r (S 7 p) ≠ 1000000 then r (S 7 p) + S 9 p else 1000000
def sBh (S : Nat → Nat → Nat) (o : Nat → Bool) (r : Nat → Nat) (p : Nat) : Nat := if sAt S o r p = 1000000 then 1000000 else sAt S o r p + S 2 (S 8 p / 2)
def rlx (S : Nat → Nat → Nat) (o : Nat → Bool) (r : Nat → Nat) (p : Nat) : Nat → Nat := if sBh S o r p < r (fl (S 8 p)) then up1 r (fl (S 8 p)) (sBh S o r p) else r
/-- the first k passages tried once, in their order -/
def rnd (S : Nat → Nat → Nat) (o : Nat → Bool) (r : Nat → Nat) : Nat → Nat → Nat
  | 0 => r
  | k + 1 => rlx S o (rnd S o r k) k
/-- what holds of S between calls (T: calls made) -/
def Inv (T : Nat) (S : Nat → Nat → Nat) : Prop :=
  (S 0 0 ≤ 20 ∧ S 0 1 ≤ 80 ∧ S 0 1 % 2 = 0 ∧ S 0 2 ≤ 6 ∧ S 0 3 ≤ 8 ∧ S 0 4 ≤ T ∧ S 0 5 ≤ T ∧ S 0 6 ≤ 40 ∧ (0 < S 0 3 → 0 < S 0 4)) ∧
  (∀ i, S 1 i ≤ 9 ∧ S 2 i ≤ 1000 ∧ S 3 i ≤ 500 ∧ S 4 i ≤ 1 ∧ S 5 i ≤ 1 ∧ S 6 i < 2 ^ 24) ∧
  (∀ i, i < S 0 0 → 1 ≤ S 2 i) ∧
  (∀ p, S 9 p ≤ 100 ∧ S 10 p ≤ 1) ∧
  (∀ p, p < S 0 1 → S 7 p < 2 * S 0 0 ∧ S 8 p < 2 * S 0 0 ∧ S 7 p / 2 ≠ S 8 p / 2) ∧
  (∀ j, S 7 (2 * j + 1) = S 8 (2 * j) ∧ S 8 (2 * j + 1) = S 7 (2 * j) ∧ S 9 (2 * j + 1) = S 9 (2 * j)) ∧
  (∀ i, S 11 i ≤ 500) ∧
  (∀ i, i < S 0 3 → S 12 i < S 0 0) ∧
  (∀ i, S 13 i ≤ S 0 4) ∧
  (∀ i, S 14 i < 20)
/-- the sizes alone, as the readers need them -/
def Bd (S : Nat → Nat → Nat) : Prop :=
  (S 0 0 ≤ 20 ∧ S 0 1 ≤ 80 ∧ S 0 2 ≤ 6 ∧ S 0 3 ≤ 8 ∧ S 0 6 ≤ 40) ∧
  (∀ i, S 1 i ≤ 9 ∧ S 2 i ≤ 1000 ∧ S 3 i ≤ 500 ∧ S 4 i ≤ 1 ∧ S 5 i ≤ 1 ∧ S 6 i < 2 ^ 24) ∧
  (∀ p, S 9 p ≤ 100 ∧ S 10 p ≤ 1) ∧
  (∀ p, p < S 0 1 → S 7 p < 40 ∧ S 8 p < 40) ∧
  (∀ i, S 11 i ≤ 500 ∧ S 12 i < 20 ∧ S 14 i < 20)
/-- the system's cells -/
def wCx (q : Nat → Nat) (k : Nat → ClassId) (r : Nat → Nat) (S c : Nat → Nat → Nat) : va_W :=
  [(q 0, .inr (3, [.ref (q 1), .ref (q 2), .ref (q 18), .int (nI (S 0 2)), .ref (q 19), .int (nI (S 0 3)), .ref (q 20), .int (nI (S 0 6)), .ref (q 21), .ref (q 22), .int (nI (S 0 4)), .int (nI (S 0 5))])),
   (q 1, .inr (2, [.int (nI (S 0 0)), .ref (q 3), .ref (q 4), .ref (q 5), .ref (q 6), .ref (q 7), .ref (q 8), .int (nI (S 0 1)), .ref (q 9), .ref (q 10), .ref (q 11), .ref (q 12), .ref (q 13), .ref (q 14)])),
   (q 2, .inr (1, [.ref (q 15), .ref (q 16), .ref (q 17)])),
   (q 3, .inl (k 0, 20, .inl (fun i => nI (S 1 i)))),
   (q 4, .inl (k 0, 20, .inl (fun i => nI (S 2 i)))),
   (q 5, .inl (k 0, 20, .inl (fun i => nI (S 3 i)))),
   (q 6, .inl (k 1, 20, .inl (fun i => nI (S 4 i)))),
   (q 7, .inl (k 1, 20, .inl (fun i => nI (S 5 i)))),
   (q 8, .inl (k 0, 20, .inl (fun i => nI (S 6 i)))),
   (q 9, .inl (k 0, 80, .inl (fun i => nI (S 7 i)))),
   (q 10, .inl (k 0, 80, .inl (fun i => nI (S 8 i)))),
   (q 11, .inl (k 0, 80, .inl (fun i => nI (S 9 i)))),
   (q 12, .inl (k 1, 80, .inl (fun i => nI (S 10 i)))),
   (q 13, .inl (k 2, 40, .inr (.inr (.inr (.inr (fun i => if i < 40 then some (r i) else none)))))),
   (q 14, .inl (k 0, 40, .inl (fun i => nI (c 3 i)))),
   (q 15, .inl (k 1, 80, .inl (fun i => nI (c 0 i)))),
   (q 16, .inl (k 0, 40, .inl (fun i => nI (c 1 i)))),
   (q 17, .inl (k 1, 20, .inl (fun i => nI (c 2 i)))),
   (q 18, .inl (k 0, 6, .inl (fun i => nI (S 11 i)))),
   (q 19, .inl (k 0, 8, .inl (fun i => nI (S 12 i)))),
   (q 20, .inl (k 0, 40, .inl (fun i => nI (S 14 i)))),
   (q 21, .inl (k 2, 8, .inr (.inr (.inr (.inr (fun i => if i < 8 then some (r (40 + i)) else none)))))),
   (q 22, .inl (k 0, 8, .inl (fun i => nI (S 13 i))))]
def wRow (k : Nat → ClassId) (r : Nat → Nat) (c : Nat → Nat → Nat) (i : Nat) : Nat × va_E := (r i, .inl (k 0, (if i < 40 then 40 else 8), .inl (fun j => if i < 40 then nI (c (10 + i) j) else rI (c (10 + i) j))))
def wC (q : Nat → Nat) (k : Nat → ClassId) (r : Nat → Nat) (S c : Nat → Nat → Nat) : va_W := wCx q k r S c ++ (List.range 48).map (wRow k r c)
/-- the reference's cells -/
def wM (q : Nat → Nat) (k : Nat → ClassId) (S m : Nat → Nat → Nat) : va_W :=
  [(q 0, .inr (4, [.int (nI (m 0 0)), .int (nI (S 0 0)), .ref (q 1), .ref (q 2), .ref (q 3), .ref (q 4), .ref (q 5), .ref (q 6), .int (nI (S 0 1 / 2)), .ref (q 7), .ref (q 8), .ref (q 9), .ref (q 10), .int (nI (S 0 2)), .ref (q 11), .int (nI (S 0 3)), .ref (q 12), .int (nI (S 0 4)), .ref (q 13), .int (nI (S 0 5)), .ref (q 14), .ref (q 15), .int (nI (S 0 6)), .ref (q 16)])),
   (q 1, .inl (k 0, 20, .inl (fun i => nI (S 1 i)))),
   (q 2, .inl (k 0, 20, .inl (fun i => nI (S 2 i)))),
   (q 3, .inl (k 0, 20, .inl (fun i => nI (S 3 i)))),
   (q 4, .inl (k 1, 20, .inl (fun i => nI (S 4 i)))),
   (q 5, .inl (k 1, 20, .inl (fun i => nI (S 5 i)))),
   (q 6, .inl (k 0, 20, .inl (fun i => nI (S 6 i)))),
   (q 7, .inl (k 0, 40, .inl (fun i => nI (S 7 (2 * i))))),
   (q 8, .inl (k 0, 40, .inl (fun i => nI (S 8 (2 * i))))),
   (q 9, .inl (k 0, 40, .inl (fun i => nI (S 9 (2 * i))))),
   (q 10, .inl (k 0, 40, .inl (fun i => nI (S 10 (2 * i) + 2 * S 10 (2 * i + 1))))),
   (q 11, .inl (k 0, 6, .inl (fun i => nI (S 11 i)))),
   (q 12, .inl (k 0, 8, .inl (fun i => nI (S 12 i)))),
   (q 13, .inl (k 0, 8, .inl (fun i => zI (S 13 i)))),
   (q 14, .inl (k 0, 40, .inl (fun i => rI (m 1 i)))),
   (q 15, .inl (k 0, 42, .inl (fun i => nI (S 14 i)))),
   (q 16, .inl (k 0, 7, .inl (fun i => pI (m 2 i))))]
def tk (k : Nat → ClassId) : List (ClassId × FieldType) := [(k 0, .int), (k 1, .boolean), (k 2, .array .int), (k 3, .long)]
/-- the links between the nest's mates -/
def nsF : List (String × Nat × String × String × String × String) := [("FloorGraph", 102, "FloorGraph$Floor", "widths", "[I", "FloorGraph"), ("FloorGraph", 111, "FloorGraph$Floor", "shut", "[Z", "FloorGraph"), ("FloorGraph", 50, "FloorGraph$Floor", "pieces", "I", "FloorGraph"), ("FloorGraph", 75, "FloorGraph$Floor", "levels", "[I", "FloorGraph"), ("FloorGraph", 86, "FloorGraph$Floor", "passages", "I", "FloorGraph"), ("FloorGraph", 91, "FloorGraph$Floor", "barred", "[Z", "FloorGraph"), ("FloorGraph$Drive", 22, "FloorGraph$Floor", "passages", "I", "FloorGraph"), ("FloorGraph$Drive", 28, "FloorGraph$Floor", "barred", "[Z", "FloorGraph"), ("FloorGraph$Drive", 31, "FloorGraph$Floor", "goals", "[I", "FloorGraph"), ("FloorGraph$Drive", 57, "FloorGraph$Floor", "starts", "[I", "FloorGraph"), ("FloorGraph$Drive", 60, "FloorGraph$Floor", "turnSeconds", "[I", "FloorGraph"), ("FloorGraph$Drive", 66, "FloorGraph$Floor", "lengths", "[I", "FloorGraph"), ("FloorGraph$Drive", 75, "FloorGraph$Floor", "pieces", "I", "FloorGraph"), ("FloorGraph$Drive", 82, "FloorGraph$Floor", "leavings", "[I", "FloorGraph"), ("FloorGraph$Drive", 85, "FloorGraph$Floor", "leaving", "[[I", "FloorGraph")]
def nsM : List (String × Nat × MethodName) := [("FloorGraph", 108, yX1_setZone), ("FloorGraph", 11, yX1_init), ("FloorGraph", 114, yX1_shutPieces), ("FloorGraph", 123, yX1_hasPieceFor), ("FloorGraph", 131, yX0_begin), ("FloorGraph", 135, yX0_spread), ("FloorGraph", 139, yX0_trace), ("FloorGraph", 146, yX0_secondsTo), ("FloorGraph", 179, yX0_waysBetween), ("FloorGraph", 18, yX0_init), ("FloorGraph", 187, yX1_addJoin), ("FloorGraph", 62, yX1_addPiece), ("FloorGraph", 95, yX1_barredAmong), ("FloorGraph$Drive", 34, yX1_mayEnter), ("FloorGraph$Drive", 45, yX1_mayLeave)]
/-- the tables as every contract takes them -/
def KX (D : va_G) (k : Nat → ClassId) (U : State) : Prop :=
  va_K D vwCl (tk k) U ∧ (∀ x ∈ nsF, va_Nw (.fieldLinkNest x.1 x.2.1 x.2.2.1 x.2.2.2.1 x.2.2.2.2.1 x.2.2.2.2.2) U) ∧ ∀ x ∈ nsM, va_Nw (.methodLinkNest x.1 x.2.1 x.2.2 "FloorGraph") U
theorem KX.warm {D : va_G} {k : Nat → ClassId} {s U : State} (hW : s.WarmedH U.vm) (h : KX D k s) : KX D k U :=
  ⟨va_K.moved hW.alike h.1, fun x hx => va_Nw.warmF hW (h.2.1 x hx), fun x hx => va_Nw.warmM hW (h.2.2 x hx)⟩
theorem KX.calling {D : va_G} {k : Nat → ClassId} {U : State} {g : JFrame} {mk : MethodId} {a : Array Value} (h : KX D k U) : KX D k (U.calling g mk a) :=
  ⟨va_K.moved (u := U) (U := U.calling g mk a) (Vm.Alike.refl U.vm) h.1, fun x hx => va_Nw.same (u := U) (U := U.calling g mk a) rfl rfl (h.2.1 x hx), fun x hx => va_Nw.same (u := U) (U := U.calling g mk a) rfl rfl (h.2.2 x hx)⟩
/-- a start that reads: the cells, the tables -/
def rB (D : va_G) (k : Nat → ClassId) (ws : va_W) (U : State) : Prop := va_P D vwCl ws U.heap ∧ KX D k U
/-- a start that writes: .. and the cells are apart -/
def wB (D : va_G) (k : Nat → ClassId) (ws : va_W) (sz : Nat) (U : State) : Prop := U.heap.size = sz ∧ va_P D vwCl ws U.heap ∧ KX D k U ∧ va_D (fun _ => True) ws
/-- the cells behind a method that writes -/
def wE (D : va_G) (A : Nat → Prop) (ws : va_W) (t : State) : Prop := va_P D vwCl ws t.heap ∧ va_D A ws
theorem rB_blind {D : va_G} {k : Nat → ClassId} {ws : va_W} {av : List Value} : FrameBlind (va_Pc av (rB D k ws)) := fun _ _ _ _ q => ⟨q.1, q.2.1, q.2.2.calling⟩
theorem wB_blind {D : va_G} {k : Nat → ClassId} {ws : va_W} {sz : Nat} {av : List Value} : FrameBlind (va_Pc av (wB D k ws sz)) := fun _ _ _ _ q => ⟨q.1, q.2.1, q.2.2.1, q.2.2.2.1.calling, q.2.2.2.2⟩
end
section
/-! Calls of readers (the heap as it was, the answer v) and of writers whose cells are the caller's. -/
section NC
variable {p : Program} {l : Launch} {e : Env} {R : Room} {s : State} {m : MethodId} {args : Array Value} {below : List Frame} {meth : Method} {c : Code} {H : Heap} {locs : List Loc} {cells slots : Nat} {Q : State → Prop}
variable {cc : ByteArray} {pc : Nat} {ls : Array Slot} {rest As stk : List Value} {D : va_G} {k : Nat → ClassId} {A : Nat → Prop} {b : Nat} {H0 : Heap} {Wd : va_W}
variable {y : MethodName} {bytes : ByteArray} {maxL nL n index : Nat} {ret : Option FieldType} {ws : List Cond} {rm : Room} {Ts : List Cond} {own C host : String} {v : Int32}
theorem rd_V (S : CallFix p m c cc nL s args Ts own) (hM : Met l y ws rm (va_Pc (.ref b :: As) (rB D k Wd)) (vp_Si (fun r => r = v)) 0 0 (fun _ => False)) (cw : CallW R s args own C index y bytes maxL ret ws rm 0 0 n)
    (hX : KX D k s) (hP : va_P D vwCl Wd H) {q0 ci N : Nat} {T : u_T} {fs : List Value} (he : Wd[q0]? = some (b, .inr (ci, fs))) (hc : vwCl[ci]? = some (C, T, N)) (hn : As.length = n) (hsize : ls.size = nL) (hstk : stk = As.reverse ++ .ref b :: rest) (h8 : (rest.map fun v => v.category).sum ≤ 8)
    (hdg : decode cc pc = .ok (.invokevirtual index, 3)) (hf : cells + 0 ≤ R.cells ∧ slots + 0 ≤ R.slots) (kk : W p l e R s m args below meth c H locs cells slots Q (F0 m (pc + 3) ls (.int v :: rest))) : W p l e R s m args below meth c H locs cells slots Q (F0 m pc ls stk) := by
  subst hstk
  refine vp_callSi (va_Run.run (va_runV (As := As) (rest := rest) S hM cw ⟨rB_blind, va_recv hX.1 hP hc he, fun U hU hW => ⟨rfl, by rw [hU]; exact hP, hX.warm hW⟩⟩ rfl hn hsize rfl (lv_room h8) hdg hf)) (fun r hr => ?_)
  subst hr
  exact kk
theorem rd_N (S : CallFix p m c cc nL s args Ts own) (hM : Met l y ws rm (va_Pc (.ref b :: As) (rB D k Wd)) (vp_Si (fun r => r = v)) 0 0 (fun _ => False)) (cw : va_CN R s args own index y host bytes maxL ret ws rm 0 0 n ∧ (Cond.instanceMethod y).before args s = true ∧ (Cond.selects C y y).before args s = true)
    (hX : KX D k s) (hP : va_P D vwCl Wd H) {q0 ci N : Nat} {T : u_T} {fs : List Value} (he : Wd[q0]? = some (b, .inr (ci, fs))) (hc : vwCl[ci]? = some (C, T, N)) (hn : As.length = n) (hsize : ls.size = nL) (hstk : stk = As.reverse ++ .ref b :: rest) (h8 : (rest.map fun v => v.category).sum ≤ 8)
    (hdg : decode cc pc = .ok (.invokevirtual index, 3)) (hf : cells + 0 ≤ R.cells ∧ slots + 0 ≤ R.slots) (kk : W p l e R s m args below meth c H locs cells slots Q (F0 m (pc + 3) ls (.int v :: rest))) : W p l e R s m args below meth c H locs cells slots Q (F0 m pc ls stk) := by
  subst hstk
  refine vp_callSi (va_Run.run (va_runVN (As := As) (rest := rest) S hM cw ⟨rB_blind, va_recv hX.1 hP hc he, fun U hU hW => ⟨rfl, by rw [hU]; exact hP, hX.warm hW⟩⟩ rfl hn hsize rfl (lv_room h8) hdg hf)) (fun r hr => ?_)
  subst hr
  exact kk
/-- a static function of numbers -/
theorem rd_S (S : CallFix p m c cc nL s args Ts own) (hM : Met l y ws rm (va_Pc As (fun _ => True)) (vp_Si (fun r => r = v)) 0 0 (fun _ => False)) (cw : CallB R s args own index y bytes maxL ret ws rm 0 0 n ∧ (Cond.static y).before args s = true)
    (hn : As.length = n) (hsize : ls.size = nL) (hstk : stk = As.reverse ++ rest) (h8 : (rest.map fun v => v.category).sum ≤ 8)
    (hdg : decode cc pc = .ok (.invokestatic index, 3)) (hf : cells + 0 ≤ R.cells ∧ slots + 0 ≤ R.slots) (kk : W p l e R s m args below meth c H locs cells slots Q (F0 m (pc + 3) ls (.int v :: rest))) : W p l e R s m args below meth c H locs cells slots Q (F0 m pc ls stk) := by
  subst hstk
  refine vp_callSi (va_Run.run (va_runS (As := As) (rest := rest) S hM cw ⟨fun _ _ _ _ q => ⟨q.1, trivial⟩, fun U hU hW => ⟨rfl, trivial⟩⟩ rfl hn hsize rfl (lv_room h8) hdg hf)) (fun r hr => ?_)
  subst hr
  exact kk
variable {mc ms : Nat}
theorem wA_free {A : Nat → Prop} {Wd : va_W} (hD : va_D A Wd) (hS : va_S A H0 H locs) (hA : ∀ q, H0.size ≤ q → A q) : ∀ q, va_A Wd H.size q → A q := by
  intro q h
  rcases h with ⟨i, e, h⟩ | h
  · exact hD.2 i _ h
  · exact hA q (Nat.le_trans hS.1 h)
theorem wr_Vi {σ : Type} {F : σ → va_W} {post : Int32 → σ → Prop} (S : CallFix p m c cc nL s args Ts own) (hM : Met l y ws rm (va_Pc (.ref b :: As) (wB D k Wd H.size)) (va_Qi post (fun u t => wE D (va_A Wd H.size) (F u) t) (va_A Wd H.size)) mc ms (va_A Wd H.size)) (cw : CallW R s args own C index y bytes maxL ret ws rm mc ms n)
    (hX : KX D k s) (hP : va_P D vwCl Wd H) (hD : va_D A Wd) (hS : va_S A H0 H locs) (hA : ∀ q, H0.size ≤ q → A q) {q0 ci N : Nat} {T : u_T} {fs : List Value} (he : Wd[q0]? = some (b, .inr (ci, fs))) (hc : vwCl[ci]? = some (C, T, N)) (hn : As.length = n) (hsize : ls.size = nL) (hstk : stk = As.reverse ++ .ref b :: rest) (h8 : (rest.map fun v => v.category).sum ≤ 8)
    (hdg : decode cc pc = .ok (.invokevirtual index, 3)) (hf : cells + mc ≤ R.cells ∧ slots + ms ≤ R.slots) (kk : ∀ (r : Int32) (u : σ) (H1 : Heap) (locs1 : List Loc), post r u → va_P D vwCl (F u) H1 → va_D A (F u) → va_S A H0 H1 locs1 → W p l e R s m args below meth c H1 locs1 (cells + mc) (slots + ms) Q (F0 m (pc + 3) ls (.int r :: rest))) : W p l e R s m args below meth c H locs cells slots Q (F0 m pc ls stk) := by
  subst hstk
  have hFc := wA_free hD hS hA
  refine va_calli (va_runV (As := As) (rest := rest) S hM cw ⟨wB_blind, va_recv hX.1 hP hc he, fun U hU hW => ⟨rfl, by rw [hU], by rw [hU]; exact hP, hX.warm hW, hD.weaken (fun _ _ _ _ => trivial)⟩⟩ rfl hn hsize rfl (lv_room h8) hdg hf) hS (fun q _ h => hFc q h) hFc (fun r u t H1 locs1 ht hvm hw hB hz1 hk1 hS1 => ?_)
  obtain ⟨hP1, hD1⟩ := hB
  rw [ht] at hP1
  exact kk r u H1 locs1 hw hP1 (hD1.weaken (fun _ _ _ h => hFc _ h)) hS1
theorem wr_Vv {σ : Type} {F : σ → va_W} {post : σ → Prop} (S : CallFix p m c cc nL s args Ts own) (hM : Met l y ws rm (va_Pc (.ref b :: As) (wB D k Wd H.size)) (va_Qv post (fun u t => wE D (va_A Wd H.size) (F u) t) (va_A Wd H.size)) mc ms (va_A Wd H.size)) (cw : CallW R s args own C index y bytes maxL ret ws rm mc ms n)
    (hX : KX D k s) (hP : va_P D vwCl Wd H) (hD : va_D A Wd) (hS : va_S A H0 H locs) (hA : ∀ q, H0.size ≤ q → A q) {q0 ci N : Nat} {T : u_T} {fs : List Value} (he : Wd[q0]? = some (b, .inr (ci, fs))) (hc : vwCl[ci]? = some (C, T, N)) (hn : As.length = n) (hsize : ls.size = nL) (hstk : stk = As.reverse ++ .ref b :: rest) (h8 : (rest.map fun v => v.category).sum ≤ 8)
    (hdg : decode cc pc = .ok (.invokevirtual index, 3)) (hf : cells + mc ≤ R.cells ∧ slots + ms ≤ R.slots) (kk : ∀ (u : σ) (H1 : Heap) (locs1 : List Loc), post u → va_P D vwCl (F u) H1 → va_D A (F u) → va_S A H0 H1 locs1 → W p l e R s m args below meth c H1 locs1 (cells + mc) (slots + ms) Q (F0 m (pc + 3) ls rest)) : W p l e R s m args below meth c H locs cells slots Q (F0 m pc ls stk) := by
  subst hstk
  have hFc := wA_free hD hS hA
  refine va_callv (va_runV (As := As) (rest := rest) S hM cw ⟨wB_blind, va_recv hX.1 hP hc he, fun U hU hW => ⟨rfl, by rw [hU], by rw [hU]; exact hP, hX.warm hW, hD.weaken (fun _ _ _ _ => trivial)⟩⟩ rfl hn hsize rfl (lv_room h8) hdg hf) hS (fun q _ h => hFc q h) hFc (fun u t H1 locs1 ht hvm hw hB hz1 hk1 hS1 => ?_)
  obtain ⟨hP1, hD1⟩ := hB
  rw [ht] at hP1
  exact kk u H1 locs1 hw hP1 (hD1.weaken (fun _ _ _ h => hFc _ h)) hS1
theorem wr_Ni {σ : Type} {F : σ → va_W} {post : Int32 → σ → Prop} (S : CallFix p m c cc nL s args Ts own) (hM : Met l y ws rm (va_Pc (.ref b :: As) (wB D k Wd H.size)) (va_Qi post (fun u t => wE D (va_A Wd H.size) (F u) t) (va_A Wd H.size)) mc ms (va_A Wd H.size)) (cw : va_CN R s args own index y host bytes maxL ret ws rm mc ms n ∧ (Cond.instanceMethod y).before args s = true ∧ (Cond.selects C y y).before args s = true)
    (hX : KX D k s) (hP : va_P D vwCl Wd H) (hD : va_D A Wd) (hS : va_S A H0 H locs) (hA : ∀ q, H0.size ≤ q → A q) {q0 ci N : Nat} {T : u_T} {fs : List Value} (he : Wd[q0]? = some (b, .inr (ci, fs))) (hc : vwCl[ci]? = some (C, T, N)) (hn : As.length = n) (hsize : ls.size = nL) (hstk : stk = As.reverse ++ .ref b :: rest) (h8 : (rest.map fun v => v.category).sum ≤ 8)
    (hdg : decode cc pc = .ok (.invokevirtual index, 3)) (hf : cells + mc ≤ R.cells ∧ slots + ms ≤ R.slots) (kk : ∀ (r : Int32) (u : σ) (H1 : Heap) (locs1 : List Loc), post r u → va_P D vwCl (F u) H1 → va_D A (F u) → va_S A H0 H1 locs1 → W p l e R s m args below meth c H1 locs1 (cells + mc) (slots + ms) Q (F0 m (pc + 3) ls (.int r :: rest))) : W p l e R s m args below meth c H locs cells slots Q (F0 m pc ls stk) := by
  subst hstk
  have hFc := wA_free hD hS hA
  refine va_calli (va_runVN (As := As) (rest := rest) S hM cw ⟨wB_blind, va_recv hX.1 hP hc he, fun U hU hW => ⟨rfl, by rw [hU], by rw [hU]; exact hP, hX.warm hW, hD.weaken (fun _ _ _ _ => trivial)⟩⟩ rfl hn hsize rfl (lv_room h8) hdg hf) hS (fun q _ h => hFc q h) hFc (fun r u t H1 locs1 ht hvm hw hB hz1 hk1 hS1 => ?_)
  obtain ⟨hP1, hD1⟩ := hB
  rw [ht] at hP1
  exact kk r u H1 locs1 hw hP1 (hD1.weaken (fun _ _ _ h => hFc _ h)) hS1
theorem wr_Nv {σ : Type} {F : σ → va_W} {post : σ → Prop} (S : CallFix p m c cc nL s args Ts own) (hM : Met l y ws rm (va_Pc (.ref b :: As) (wB D k Wd H.size)) (va_Qv post (fun u t => wE D (va_A Wd H.size) (F u) t) (va_A Wd H.size)) mc ms (va_A Wd H.size)) (cw : va_CN R s args own index y host bytes maxL ret ws rm mc ms n ∧ (Cond.instanceMethod y).before args s = true ∧ (Cond.selects C y y).before args s = true)
    (hX : KX D k s) (hP : va_P D vwCl Wd H) (hD : va_D A Wd) (hS : va_S A H0 H locs) (hA : ∀ q, H0.size ≤ q → A q) {q0 ci N : Nat} {T : u_T} {fs : List Value} (he : Wd[q0]? = some (b, .inr (ci, fs))) (hc : vwCl[ci]? = some (C, T, N)) (hn : As.length = n) (hsize : ls.size = nL) (hstk : stk = As.reverse ++ .ref b :: rest) (h8 : (rest.map fun v => v.category).sum ≤ 8)
    (hdg : decode cc pc = .ok (.invokevirtual index, 3)) (hf : cells + mc ≤ R.cells ∧ slots + ms ≤ R.slots) (kk : ∀ (u : σ) (H1 : Heap) (locs1 : List Loc), post u → va_P D vwCl (F u) H1 → va_D A (F u) → va_S A H0 H1 locs1 → W p l e R s m args below meth c H1 locs1 (cells + mc) (slots + ms) Q (F0 m (pc + 3) ls rest)) : W p l e R s m args below meth c H locs cells slots Q (F0 m pc ls stk) := by
  subst hstk
  have hFc := wA_free hD hS hA
  refine va_callv (va_runVN (As := As) (rest := rest) S hM cw ⟨wB_blind, va_recv hX.1 hP hc he, fun U hU hW => ⟨rfl, by rw [hU], by rw [hU]; exact hP, hX.warm hW, hD.weaken (fun _ _ _ _ => trivial)⟩⟩ rfl hn hsize rfl (lv_room h8) hdg hf) hS (fun q _ h => hFc q h) hFc (fun u t H1 locs1 ht hvm hw hB hz1 hk1 hS1 => ?_)
  obtain ⟨hP1, hD1⟩ := hB
  rw [ht] at hP1
  exact kk u H1 locs1 hw hP1 (hD1.weaken (fun _ _ _ h => hFc _ h)) hS1
end NC
end
section
/-! Rows of bits over numbers. -/
theorem na_s31 : ∀ n, n < 32 → ((nI n &&& 31).toBitVec.smod 32).toNat = n := by decide
theorem na_shr {x h : Nat} (hx : x < 2 ^ 31) (hh : h < 32) : nI x >>> (nI h &&& 31) = nI (x / 2 ^ h) := pk_shrN hx _ h (na_s31 h hh)
theorem na_and1 {x : Nat} (hx : x < 2 ^ 31) : nI x &&& nI 1 = nI (x % 2) := by
  have h := pk_andN (n := x) (show x < 2 ^ 32 by omega) (m := nI 1) 1 (by decide)
  exact h
theorem na_xor1 : ∀ x, x < 80 → nI x ^^^ nI 1 = nI (fl x) := by decide
theorem nar_b : ∀ v, v ≤ 1 → narrow .boolean (.int (nI v)) = .int (nI v) := by
  intro v hv
  rcases (show v = 0 ∨ v = 1 by omega) with rfl | rfl <;> rfl
theorem fl_lt {x n : Nat} (h : x < 2 * n) : fl x < 2 * n := by
  unfold fl
  split <;> omega
theorem fl_div (x : Nat) : fl x / 2 = x / 2 := by
  unfold fl
  split <;> omega
section NB
variable {p : Program} {l : Launch} {e : Env} {R : Room} {s : State} {m : MethodId} {args : Array Value} {below : List Frame} {meth : Method} {c : Code} {H : Heap} {locs : List Loc} {cells slots : Nat} {Q : State → Prop}
variable {cc : ByteArray} {pc : Nat} {ls : Array Slot} {rest : List Value}
theorem na_ishr (hexec : p.tables.exec = Jvm.exec) (hb : c.code = cc) {x h : Nat} (hx : x < 2 ^ 31) (hh : h < 32) (hdg : decode cc pc = .ok (.ishr, 1)) (k : W p l e R s m args below meth c H locs cells slots Q (F0 m (pc + 1) ls (.int (nI (x / 2 ^ h)) :: rest))) : W p l e R s m args below meth c H locs cells slots Q (F0 m pc ls (.int (nI h) :: .int (nI x) :: rest)) :=
  lv_ishr hexec hb hdg (na_as (na_shr hx hh) k)
theorem na_iand1 (hexec : p.tables.exec = Jvm.exec) (hb : c.code = cc) {x : Nat} (hx : x < 2 ^ 31) (hdg : decode cc pc = .ok (.iand, 1)) (k : W p l e R s m args below meth c H locs cells slots Q (F0 m (pc + 1) ls (.int (nI (x % 2)) :: rest))) : W p l e R s m args below meth c H locs cells slots Q (F0 m pc ls (.int (nI 1) :: .int (nI x) :: rest)) :=
  lv_iand hexec hb hdg (na_as (na_and1 hx) k)
theorem na_ixor1 (hexec : p.tables.exec = Jvm.exec) (hb : c.code = cc) {x : Nat} (hx : x < 80) (hdg : decode cc pc = .ok (.ixor, 1)) (k : W p l e R s m args below meth c H locs cells slots Q (F0 m (pc + 1) ls (.int (nI (fl x)) :: rest))) : W p l e R s m args below meth c H locs cells slots Q (F0 m pc ls (.int (nI 1) :: .int (nI x) :: rest)) :=
  lv_ixor hexec hb hdg (na_as (na_xor1 x hx) k)
end NB
/-- a sum over n places from a -/
def sm (f : Nat → Nat) (a : Nat) : Nat → Nat
  | 0 => 0
  | n + 1 => sm f a n + f (a + n)
theorem sm_le {f : Nat → Nat} {a : Nat} (h : ∀ i, f i ≤ 1) : ∀ n, sm f a n ≤ n
  | 0 => Nat.le_refl _
  | n + 1 => by
    have h1 := sm_le (a := a) h n
    have h2 := h (a + n)
    unfold sm
    omega
theorem sm_step {f : Nat → Nat} {a i : Nat} (h : a ≤ i) : sm f a (i + 1 - a) = sm f a (i - a) + f i := by
  rw [show i + 1 - a = (i - a) + 1 by omega]
  show sm f a (i - a) + f (a + (i - a)) = _
  rw [show a + (i - a) = i by omega]
theorem bN1 {b : Bool} (h : b = true) : nI 1 = nI (bN b) := by rw [h]; rfl
theorem bN0 {b : Bool} (h : b = false) : nI 0 = nI (bN b) := by rw [h]; rfl
end
section
/-! -1 among numbers: pI v = v - 1 (0: none), rI v (1000000: none); raw ints by their toInt. -/
theorem pI_s (n : Nat) : nI n = pI (n + 1) := by
  unfold pI
  rw [nI_succ]
  simp
theorem pI_toInt {n : Nat} (h : n < 2 ^ 31) : (pI n).toInt = (n : Int) - 1 := by
  rcases Nat.eq_zero_or_pos n with h0 | h0
  · subst h0
    decide
  · obtain ⟨j, rfl⟩ : ∃ j, n = j + 1 := ⟨n - 1, by omega⟩
    rw [← pI_s, nI_toInt (by omega)]
    omega
theorem pI_inj {a b : Nat} (ha : a < 2 ^ 31) (hb : b < 2 ^ 31) : pI a = pI b ↔ a = b := by
  refine ⟨fun h => ?_, fun h => by rw [h]⟩
  have h1 := pI_toInt ha
  rw [h, pI_toInt hb] at h1
  omega
theorem pI_pos {b : Nat} (h : 0 < b) : pI b = nI (b - 1) := by
  obtain ⟨j, rfl⟩ : ∃ j, b = j + 1 := ⟨b - 1, by omega⟩
  rw [← pI_s]
  rfl
theorem pI_0 : pI 0 = -1 := by decide
theorem rI_none : rI 1000000 = pI 0 := by decide
theorem rI_some {v : Nat} (h : v ≠ 1000000) : rI v = nI v := if_neg h
theorem rI_p0 {v : Nat} (h : v < 2 ^ 31) : rI v = pI 0 ↔ v = 1000000 := by
  refine ⟨fun e => ?_, fun e => by rw [e]; exact rI_none⟩
  refine Classical.byContradiction fun q => ?_
  rw [rI_some q] at e
  have h1 := nI_toInt h
  rw [e, pI_toInt (by decide)] at h1
  omega
theorem zI_0 : zI 0 = pI 0 := by decide
theorem zI_pos {v : Nat} (h : 0 < v) : zI v = nI v := if_neg (by omega)
def iN (x : Int32) : Nat := x.toInt.toNat
theorem iN_lt (x : Int32) : iN x < 2 ^ 31 := by
  have := x.toInt_lt
  unfold iN
  omega
theorem iN_toInt {x : Int32} (h : 0 ≤ x.toInt) : (iN x : Int) = x.toInt := by
  unfold iN
  omega
theorem iN_eq {x : Int32} (h : 0 ≤ x.toInt) : x = nI (iN x) := by
  apply Int32.toInt_inj.mp
  rw [nI_toInt (iN_lt x), iN_toInt h]
theorem raw_nI {x : Int32} {n : Nat} (h0 : 0 ≤ x.toInt) (h : x.toInt < (n : Int)) : ∃ j : Nat, j < n ∧ x = nI j := ⟨iN x, by have := iN_toInt h0; omega, iN_eq h0⟩
theorem raw_ri {x : Int32} {a b : Nat} (h0 : (a : Int) ≤ x.toInt) (h : x.toInt ≤ (b : Int)) : ∃ j : Nat, a ≤ j ∧ j ≤ b ∧ x = nI j := ⟨iN x, by have := iN_toInt (x := x) (by omega); omega, by have := iN_toInt (x := x) (by omega); omega, iN_eq (by omega)⟩
section NR
variable {p : Program} {l : Launch} {e : Env} {R : Room} {s : State} {m : MethodId} {args : Array Value} {below : List Frame} {meth : Method} {c : Code} {H : Heap} {locs : List Loc} {cells slots : Nat} {Q : State → Prop}
variable {cc : ByteArray} {pc : Nat} {ls : Array Slot} {rest : List Value}
theorem nr_icmp_lt (hexec : p.tables.exec = Jvm.exec) (hb : c.code = cc) {x y : Int32} {off : Int} {tgt : Nat} (hdg : decode cc pc = .ok (.if_icmp .lt off, 3)) (ht : (pc : Int) + off = (tgt : Int))
    (kt : x.toInt < y.toInt → W p l e R s m args below meth c H locs cells slots Q (F0 m tgt ls rest)) (kf : y.toInt ≤ x.toInt → W p l e R s m args below meth c H locs cells slots Q (F0 m (pc + 3) ls rest)) : W p l e R s m args below meth c H locs cells slots Q (F0 m pc ls (.int y :: .int x :: rest)) :=
  lv_icmp_lt hexec hb hdg ht (fun h => kt (Int32.lt_iff_toInt_lt.mp h)) (fun h => kf (Int.not_lt.mp fun q => h (Int32.lt_iff_toInt_lt.mpr q)))
theorem nr_icmp_ge (hexec : p.tables.exec = Jvm.exec) (hb : c.code = cc) {x y : Int32} {off : Int} {tgt : Nat} (hdg : decode cc pc = .ok (.if_icmp .ge off, 3)) (ht : (pc : Int) + off = (tgt : Int))
    (kt : y.toInt ≤ x.toInt → W p l e R s m args below meth c H locs cells slots Q (F0 m tgt ls rest)) (kf : x.toInt < y.toInt → W p l e R s m args below meth c H locs cells slots Q (F0 m (pc + 3) ls rest)) : W p l e R s m args below meth c H locs cells slots Q (F0 m pc ls (.int y :: .int x :: rest)) :=
  lv_icmp_ge hexec hb hdg ht (fun h => kt (Int32.le_iff_toInt_le.mp h)) (fun h => kf (Int.not_le.mp fun q => h (Int32.le_iff_toInt_le.mpr q)))
theorem nr_icmp_gt (hexec : p.tables.exec = Jvm.exec) (hb : c.code = cc) {x y : Int32} {off : Int} {tgt : Nat} (hdg : decode cc pc = .ok (.if_icmp .gt off, 3)) (ht : (pc : Int) + off = (tgt : Int))
    (kt : y.toInt < x.toInt → W p l e R s m args below meth c H locs cells slots Q (F0 m tgt ls rest)) (kf : x.toInt ≤ y.toInt → W p l e R s m args below meth c H locs cells slots Q (F0 m (pc + 3) ls rest)) : W p l e R s m args below meth c H locs cells slots Q (F0 m pc ls (.int y :: .int x :: rest)) :=
  lv_icmp_gt hexec hb hdg ht (fun h => kt (Int32.lt_iff_toInt_lt.mp h)) (fun h => kf (Int.not_lt.mp fun q => h (Int32.lt_iff_toInt_lt.mpr q)))
theorem nr_icmp_le (hexec : p.tables.exec = Jvm.exec) (hb : c.code = cc) {x y : Int32} {off : Int} {tgt : Nat} (hdg : decode cc pc = .ok (.if_icmp .le off, 3)) (ht : (pc : Int) + off = (tgt : Int))
    (kt : x.toInt ≤ y.toInt → W p l e R s m args below meth c H locs cells slots Q (F0 m tgt ls rest)) (kf : y.toInt < x.toInt → W p l e R s m args below meth c H locs cells slots Q (F0 m (pc + 3) ls rest)) : W p l e R s m args below meth c H locs cells slots Q (F0 m pc ls (.int y :: .int x :: rest)) :=
  lv_icmp_le hexec hb hdg ht (fun h => kt (Int32.le_iff_toInt_le.mp h)) (fun h => kf (Int.not_le.mp fun q => h (Int32.le_iff_toInt_le.mpr q)))
theorem nr_icmp_eq (hexec : p.tables.exec = Jvm.exec) (hb : c.code = cc) {x y : Int32} {off : Int} {tgt : Nat} (hdg : decode cc pc = .ok (.if_icmp .eq off, 3)) (ht : (pc : Int) + off = (tgt : Int))
    (kt : x.toInt = y.toInt → W p l e R s m args below meth c H locs cells slots Q (F0 m tgt ls rest)) (kf : x.toInt ≠ y.toInt → W p l e R s m args below meth c H locs cells slots Q (F0 m (pc + 3) ls rest)) : W p l e R s m args below meth c H locs cells slots Q (F0 m pc ls (.int y :: .int x :: rest)) :=
  lv_icmp_eq hexec hb hdg ht (fun h => kt (by rw [h])) (fun h => kf (fun q => h (Int32.toInt_inj.mp q)))
theorem nr_icmp_ne (hexec : p.tables.exec = Jvm.exec) (hb : c.code = cc) {x y : Int32} {off : Int} {tgt : Nat} (hdg : decode cc pc = .ok (.if_icmp .ne off, 3)) (ht : (pc : Int) + off = (tgt : Int))
    (kt : x.toInt ≠ y.toInt → W p l e R s m args below meth c H locs cells slots Q (F0 m tgt ls rest)) (kf : x.toInt = y.toInt → W p l e R s m args below meth c H locs cells slots Q (F0 m (pc + 3) ls rest)) : W p l e R s m args below meth c H locs cells slots Q (F0 m pc ls (.int y :: .int x :: rest)) :=
  lv_icmp_ne hexec hb hdg ht (fun h => kt (fun q => h (Int32.toInt_inj.mp q))) (fun h => kf (by rw [h]))
theorem nr_if_lt (hexec : p.tables.exec = Jvm.exec) (hb : c.code = cc) {x : Int32} {off : Int} {tgt : Nat} (hdg : decode cc pc = .ok (.ifCond .lt off, 3)) (ht : (pc : Int) + off = (tgt : Int))
    (kt : x.toInt < 0 → W p l e R s m args below meth c H locs cells slots Q (F0 m tgt ls rest)) (kf : 0 ≤ x.toInt → W p l e R s m args below meth c H locs cells slots Q (F0 m (pc + 3) ls rest)) : W p l e R s m args below meth c H locs cells slots Q (F0 m pc ls (.int x :: rest)) :=
  lv_if_lt hexec hb hdg ht (fun h => kt (by have := Int32.lt_iff_toInt_lt.mp h; rwa [Int32.toInt_zero] at this)) (fun h => kf (Int.not_lt.mp fun q => h (Int32.lt_iff_toInt_lt.mpr (by rwa [Int32.toInt_zero]))))
theorem nr_if_ge (hexec : p.tables.exec = Jvm.exec) (hb : c.code = cc) {x : Int32} {off : Int} {tgt : Nat} (hdg : decode cc pc = .ok (.ifCond .ge off, 3)) (ht : (pc : Int) + off = (tgt : Int))
    (kt : 0 ≤ x.toInt → W p l e R s m args below meth c H locs cells slots Q (F0 m tgt ls rest)) (kf : x.toInt < 0 → W p l e R s m args below meth c H locs cells slots Q (F0 m (pc + 3) ls rest)) : W p l e R s m args below meth c H locs cells slots Q (F0 m pc ls (.int x :: rest)) :=
  lv_if_ge hexec hb hdg ht (fun h => kt (by have := Int32.le_iff_toInt_le.mp h; rwa [Int32.toInt_zero] at this)) (fun h => kf (Int.not_le.mp fun q => h (Int32.le_iff_toInt_le.mpr (by rwa [Int32.toInt_zero]))))
theorem nr_if_eq (hexec : p.tables.exec = Jvm.exec) (hb : c.code = cc) {x : Int32} {off : Int} {tgt : Nat} (hdg : decode cc pc = .ok (.ifCond .eq off, 3)) (ht : (pc : Int) + off = (tgt : Int))
    (kt : x.toInt = 0 → W p l e R s m args below meth c H locs cells slots Q (F0 m tgt ls rest)) (kf : x.toInt ≠ 0 → W p l e R s m args below meth c H locs cells slots Q (F0 m (pc + 3) ls rest)) : W p l e R s m args below meth c H locs cells slots Q (F0 m pc ls (.int x :: rest)) :=
  lv_if_eq hexec hb hdg ht (fun h => kt (by rw [h]; rfl)) (fun h => kf (fun q => h (Int32.toInt_inj.mp (by rw [q]; rfl))))
theorem nr_if_ne (hexec : p.tables.exec = Jvm.exec) (hb : c.code = cc) {x : Int32} {off : Int} {tgt : Nat} (hdg : decode cc pc = .ok (.ifCond .ne off, 3)) (ht : (pc : Int) + off = (tgt : Int))
    (kt : x.toInt ≠ 0 → W p l e R s m args below meth c H locs cells slots Q (F0 m tgt ls rest)) (kf : x.toInt = 0 → W p l e R s m args below meth c H locs cells slots Q (F0 m (pc + 3) ls rest)) : W p l e R s m args below meth c H locs cells slots Q (F0 m pc ls (.int x :: rest)) :=
  lv_if_ne hexec hb hdg ht (fun h => kt (fun q => h (Int32.toInt_inj.mp (by rw [q]; rfl)))) (fun h => kf (by rw [h]; rfl))
theorem np_icmp_eq (hexec : p.tables.exec = Jvm.exec) (hb : c.code = cc) {x y : Nat} {off : Int} {tgt : Nat} (hx : x < 2 ^ 31) (hy : y < 2 ^ 31) (hdg : decode cc pc = .ok (.if_icmp .eq off, 3)) (ht : (pc : Int) + off = (tgt : Int))
    (kt : x = y → W p l e R s m args below meth c H locs cells slots Q (F0 m tgt ls rest)) (kf : x ≠ y → W p l e R s m args below meth c H locs cells slots Q (F0 m (pc + 3) ls rest)) : W p l e R s m args below meth c H locs cells slots Q (F0 m pc ls (.int (pI y) :: .int (pI x) :: rest)) :=
  lv_icmp_eq hexec hb hdg ht (fun h => kt ((pI_inj hx hy).mp h)) (fun h => kf (fun q => h ((pI_inj hx hy).mpr q)))
theorem np_icmp_ne (hexec : p.tables.exec = Jvm.exec) (hb : c.code = cc) {x y : Nat} {off : Int} {tgt : Nat} (hx : x < 2 ^ 31) (hy : y < 2 ^ 31) (hdg : decode cc pc = .ok (.if_icmp .ne off, 3)) (ht : (pc : Int) + off = (tgt : Int))
    (kt : x ≠ y → W p l e R s m args below meth c H locs cells slots Q (F0 m tgt ls rest)) (kf : x = y → W p l e R s m args below meth c H locs cells slots Q (F0 m (pc + 3) ls rest)) : W p l e R s m args below meth c H locs cells slots Q (F0 m pc ls (.int (pI y) :: .int (pI x) :: rest)) :=
  lv_icmp_ne hexec hb hdg ht (fun h => kt (fun q => h ((pI_inj hx hy).mpr q))) (fun h => kf ((pI_inj hx hy).mp h))
theorem nz_icmp_eq (hexec : p.tables.exec = Jvm.exec) (hb : c.code = cc) {x : Nat} {off : Int} {tgt : Nat} (hx : x < 2 ^ 31) (hdg : decode cc pc = .ok (.if_icmp .eq off, 3)) (ht : (pc : Int) + off = (tgt : Int))
    (kt : x = 1000000 → W p l e R s m args below meth c H locs cells slots Q (F0 m tgt ls rest)) (kf : x ≠ 1000000 → W p l e R s m args below meth c H locs cells slots Q (F0 m (pc + 3) ls rest)) : W p l e R s m args below meth c H locs cells slots Q (F0 m pc ls (.int (pI 0) :: .int (rI x) :: rest)) :=
  lv_icmp_eq hexec hb hdg ht (fun h => kt ((rI_p0 hx).mp h)) (fun h => kf (fun q => h ((rI_p0 hx).mpr q)))
theorem nz_icmp_ne (hexec : p.tables.exec = Jvm.exec) (hb : c.code = cc) {x : Nat} {off : Int} {tgt : Nat} (hx : x < 2 ^ 31) (hdg : decode cc pc = .ok (.if_icmp .ne off, 3)) (ht : (pc : Int) + off = (tgt : Int))
    (kt : x ≠ 1000000 → W p l e R s m args below meth c H locs cells slots Q (F0 m tgt ls rest)) (kf : x = 1000000 → W p l e R s m args below meth c H locs cells slots Q (F0 m (pc + 3) ls rest)) : W p l e R s m args below meth c H locs cells slots Q (F0 m pc ls (.int (pI 0) :: .int (rI x) :: rest)) :=
  lv_icmp_ne hexec hb hdg ht (fun h => kt (fun q => h ((rI_p0 hx).mpr q))) (fun h => kf ((rI_p0 hx).mp h))
end NR
/-! pure words of the readers -/
def anyB (f : Nat → Bool) : Nat → Bool
  | 0 => false
  | n + 1 => anyB f n || f n
theorem anyB_t {f : Nat → Bool} {i n : Nat} (h : f i = true) (hi : i < n) : anyB f n = true := by
  induction n with
  | zero => omega
  | succ n ih =>
    unfold anyB
    rcases Nat.lt_or_eq_of_le (Nat.le_of_lt_succ hi) with q | q
    · rw [ih q]; rfl
    · rw [← q, h]; simp
theorem anyB_s {f : Nat → Bool} {n : Nat} (h : anyB f n = false) (h2 : f n = false) : anyB f (n + 1) = false := by
  unfold anyB
  rw [h, h2]
  rfl
def oZ (Z : Nat → Nat → Nat) : Nat → Bool := fun p => decide (Z 0 p = 1)
theorem sAt_le {S : Nat → Nat → Nat} {o : Nat → Bool} {r : Nat → Nat} (h9 : ∀ p, S 9 p ≤ 100) (hr : ∀ e, r e ≤ 1000000) (p : Nat) : sAt S o r p ≤ 1000100 := by
  have h1 := h9 p
  have h2 := hr (S 7 p)
  unfold sAt
  split <;> omega
theorem sBh_le {S : Nat → Nat → Nat} {o : Nat → Bool} {r : Nat → Nat} (h9 : ∀ p, S 9 p ≤ 100) (h2 : ∀ i, S 2 i ≤ 1000) (hr : ∀ e, r e ≤ 1000000) (p : Nat) : sBh S o r p ≤ 1001100 := by
  have h1 := sAt_le h9 hr (o := o) p
  have h3 := h2 (S 8 p / 2)
  unfold sBh
  split <;> omega
/-- the passage by which 'to' is come into first, of the first n (0: none, else one more), and when -/
def lpB (S : Nat → Nat → Nat) (o : Nat → Bool) (r : Nat → Nat) (t : Nat) : Nat → Nat × Nat
  | 0 => (0, 1000000)
  | n + 1 => if S 8 n / 2 = t ∧ sAt S o r n < (lpB S o r t n).2 then (n + 1, sAt S o r n) else lpB S o r t n
theorem lpB_y {S : Nat → Nat → Nat} {o : Nat → Bool} {r : Nat → Nat} {t n b x : Nat} (h : lpB S o r t n = (b, x)) (h1 : S 8 n / 2 = t) (h2 : sAt S o r n < x) : lpB S o r t (n + 1) = (n + 1, sAt S o r n) := by
  unfold lpB
  rw [h]
  exact if_pos ⟨h1, h2⟩
theorem lpB_n {S : Nat → Nat → Nat} {o : Nat → Bool} {r : Nat → Nat} {t n b x : Nat} (h : lpB S o r t n = (b, x)) (h1 : ¬ (S 8 n / 2 = t ∧ sAt S o r n < x)) : lpB S o r t (n + 1) = (b, x) := by
  unfold lpB
  rw [h]
  exact if_neg h1
theorem lpB_ok {S : Nat → Nat → Nat} {o : Nat → Bool} {r : Nat → Nat} {t : Nat} : ∀ n, (lpB S o r t n).1 ≤ n ∧ (lpB S o r t n).2 ≤ 1000000 ∧ ((lpB S o r t n).1 = 0 → (lpB S o r t n).2 = 1000000) ∧ (0 < (lpB S o r t n).1 → (lpB S o r t n).2 = sAt S o r ((lpB S o r t n).1 - 1) ∧ (lpB S o r t n).2 < 1000000)
  | 0 => ⟨Nat.le_refl _, Nat.le_refl _, fun _ => rfl, fun h => absurd h (by simp [lpB])⟩
  | n + 1 => by
    have ih := lpB_ok (S := S) (o := o) (r := r) (t := t) n
    by_cases q : S 8 n / 2 = t ∧ sAt S o r n < (lpB S o r t n).2
    · rw [lpB_y rfl q.1 q.2]
      refine ⟨Nat.le_refl _, ?_, fun h => by simp at h, fun _ => ⟨rfl, ?_⟩⟩
      · have := q.2; have := ih.2.1; simp only; omega
      · have := q.2; have := ih.2.1; simp only; omega
    · rw [lpB_n rfl q]
      exact ⟨by have := ih.1; omega, ih.2⟩
/-- the seconds from one piece to another, 1000000 if there is no way -/
def sTo (S : Nat → Nat → Nat) (o : Nat → Bool) (r : Nat → Nat) (a t : Nat) : Nat := if a = t then 0 else (lpB S o r t (S 0 1)).2
theorem sTo_le {S : Nat → Nat → Nat} {o : Nat → Bool} {r : Nat → Nat} {a t : Nat} : sTo S o r a t ≤ 1000000 := by
  unfold sTo
  split
  · omega
  · exact (lpB_ok _).2.1
/-- the first of n that is P, one more; 0: none -/
def ff (P : Nat → Bool) : Nat → Nat
  | 0 => 0
  | n + 1 => if ff P n = 0 then (if P n = true then n + 1 else 0) else ff P n
theorem ff_s {P : Nat → Bool} {n : Nat} (h : ff P n = 0) (h2 : ¬ P n = true) : ff P (n + 1) = 0 := by
  unfold ff
  rw [if_pos h, if_neg h2]
theorem ff_y {P : Nat → Bool} {i : Nat} (h : ff P i = 0) (h2 : P i = true) : ∀ n, i < n → ff P n = i + 1
  | 0, q => absurd q (Nat.not_lt_zero _)
  | n + 1, q => by
    unfold ff
    rcases Nat.lt_or_eq_of_le (Nat.le_of_lt_succ q) with q | q
    · rw [ff_y h h2 n q]; exact if_neg (by omega)
    · rw [← q, if_pos h, if_pos h2]
theorem ff_ok {P : Nat → Bool} : ∀ n, ff P n ≤ n ∧ (0 < ff P n → P (ff P n - 1) = true)
  | 0 => ⟨Nat.le_refl _, fun h => absurd h (Nat.lt_irrefl _)⟩
  | n + 1 => by
    have ih := ff_ok (P := P) n
    unfold ff
    split
    · split
      · exact ⟨Nat.le_refl _, fun _ => by assumption⟩
      · exact ⟨Nat.zero_le _, fun h => absurd h (Nat.lt_irrefl _)⟩
    · exact ⟨by have := ih.1; omega, ih.2⟩
/-- the passage just before an end -/
def pBf (S : Nat → Nat → Nat) (o : Nat → Bool) (r : Nat → Nat) (e : Nat) : Nat := if r e = 0 then 0 else ff (fun p => decide (S 8 p = fl e ∧ sBh S o r p = r e)) (S 0 1)
end
section
/-! more rows and words for the reference's readers -/
theorem rI_inj {a b : Nat} (ha : a < 2 ^ 31) (hb : b < 2 ^ 31) : rI a = rI b ↔ a = b := by
  refine ⟨fun h => ?_, fun h => by rw [h]⟩
  by_cases qa : a = 1000000
  · subst qa
    rw [rI_none] at h
    exact ((rI_p0 hb).mp h.symm).symm
  · by_cases qb : b = 1000000
    · subst qb
      rw [rI_none] at h
      exact (rI_p0 ha).mp h
    · rw [rI_some qa, rI_some qb] at h
      exact (nI_eq ha hb).mp h
section NR3
variable {p : Program} {l : Launch} {e : Env} {R : Room} {s : State} {m : MethodId} {args : Array Value} {below : List Frame} {meth : Method} {c : Code} {H : Heap} {locs : List Loc} {cells slots : Nat} {Q : State → Prop}
variable {cc : ByteArray} {pc : Nat} {ls : Array Slot} {rest : List Value}
theorem nzz_icmp_eq (hexec : p.tables.exec = Jvm.exec) (hb : c.code = cc) {x y : Nat} {off : Int} {tgt : Nat} (hx : x < 2 ^ 31) (hy : y < 2 ^ 31) (hdg : decode cc pc = .ok (.if_icmp .eq off, 3)) (ht : (pc : Int) + off = (tgt : Int))
    (kt : x = y → W p l e R s m args below meth c H locs cells slots Q (F0 m tgt ls rest)) (kf : x ≠ y → W p l e R s m args below meth c H locs cells slots Q (F0 m (pc + 3) ls rest)) : W p l e R s m args below meth c H locs cells slots Q (F0 m pc ls (.int (rI y) :: .int (rI x) :: rest)) :=
  lv_icmp_eq hexec hb hdg ht (fun h => kt ((rI_inj hx hy).mp h)) (fun h => kf (fun q => h ((rI_inj hx hy).mpr q)))
theorem nzz_icmp_ne (hexec : p.tables.exec = Jvm.exec) (hb : c.code = cc) {x y : Nat} {off : Int} {tgt : Nat} (hx : x < 2 ^ 31) (hy : y < 2 ^ 31) (hdg : decode cc pc = .ok (.if_icmp .ne off, 3)) (ht : (pc : Int) + off = (tgt : Int))
    (kt : x ≠ y → W p l e R s m args below meth c H locs cells slots Q (F0 m tgt ls rest)) (kf : x = y → W p l e R s m args below meth c H locs cells slots Q (F0 m (pc + 3) ls rest)) : W p l e R s m args below meth c H locs cells slots Q (F0 m pc ls (.int (rI y) :: .int (rI x) :: rest)) :=
  lv_icmp_ne hexec hb hdg ht (fun h => kt (fun q => h ((rI_inj hx hy).mpr q))) (fun h => kf ((rI_inj hx hy).mp h))
end NR3
/-- a join's two passages -/
def Jn (S : Nat → Nat → Nat) : Prop := S 0 1 % 2 = 0 ∧ ∀ j, S 7 (2 * j + 1) = S 8 (2 * j) ∧ S 8 (2 * j + 1) = S 7 (2 * j) ∧ S 9 (2 * j + 1) = S 9 (2 * j)
/-- what is reached is small, or none -/
def Rb (r : Nat → Nat) : Prop := ∀ e, r e = 1000000 ∨ r e ≤ 50000
def inR (a b : Int) (x : Int32) : Bool := decide (a ≤ x.toInt ∧ x.toInt ≤ b)
theorem inR_t {a b : Int} {x : Int32} (h : a ≤ x.toInt) (h2 : x.toInt ≤ b) : inR a b x = true := decide_eq_true ⟨h, h2⟩
theorem inR_f {a b : Int} {x : Int32} (h : ¬ (a ≤ x.toInt ∧ x.toInt ≤ b)) : inR a b x = false := decide_eq_false h
theorem inR_iff {a b : Int} {x : Int32} : inR a b x = true ↔ a ≤ x.toInt ∧ x.toInt ≤ b := decide_eq_true_iff
theorem opn_def (S : Nat → Nat → Nat) (w h p : Nat) : opn S w h p = (decide (S 10 p = 0) && mvE S w h (S 8 p)) := rfl
theorem bars_bit {a b d : Nat} (ha : a ≤ 1) (hb : b ≤ 1) (hd : d < 2) : (a + 2 * b) / 2 ^ d % 2 = if d = 0 then a else b := by
  rcases (show d = 0 ∨ d = 1 by omega) with rfl | rfl
  · simp; omega
  · simp; omega
theorem sAt_none {S : Nat → Nat → Nat} {o : Nat → Bool} {r : Nat → Nat} {p : Nat} (h : ¬ (o p = true ∧ r (S 7 p) ≠ 1000000)) : sAt S o r p = 1000000 := if_neg h
theorem sAt_some {S : Nat → Nat → Nat} {o : Nat → Bool} {r : Nat → Nat} {p : Nat} (h : o p = true) (h2 : r (S 7 p) ≠ 1000000) : sAt S o r p = r (S 7 p) + S 9 p := if_pos ⟨h, h2⟩
theorem sBh_none {S : Nat → Nat → Nat} {o : Nat → Bool} {r : Nat → Nat} {p : Nat} (h : sAt S o r p = 1000000) : sBh S o r p = 1000000 := if_pos h
theorem sBh_some {S : Nat → Nat → Nat} {o : Nat → Bool} {r : Nat → Nat} {p : Nat} (h : sAt S o r p ≠ 1000000) : sBh S o r p = sAt S o r p + S 2 (S 8 p / 2) := if_neg h
/-- the end from which 'to' is come into at second t: one more, 0: none -/
def lEn (S : Nat → Nat → Nat) (o : Nat → Bool) (r : Nat → Nat) (to t n : Nat) : Nat := ff (fun p => decide (S 8 p / 2 = to ∧ sAt S o r p = t ∧ sAt S o r p ≠ 1000000)) n
def bEn (S : Nat → Nat → Nat) (o : Nat → Bool) (r : Nat → Nat) (e n : Nat) : Nat := ff (fun p => decide (S 8 p = fl e ∧ sBh S o r p = r e)) n
def atS (S : Nat → Nat → Nat) (f : Nat) : Nat := if f = 0 then 0 else S 7 (f - 1) + 1
theorem atS_y {S : Nat → Nat → Nat} (f : Nat) : atS S (f + 1) = S 7 f + 1 := rfl
theorem bN_pos {b : Bool} (h : 0 < bN b) : b = true := by
  cases b
  · exact absurd h (by decide)
  · rfl
theorem bN_zero {b : Bool} (h : bN b = 0) : b = false := by
  cases b
  · rfl
  · exact absurd h (by decide)
/-- a robot, two pieces, an hour -/
def isD (S : Nat → Nat → Nat) (x0 x1 x2 x3 : Int32) : Bool := inR 0 ((S 0 2 : Int) - 1) x0 && inR 0 ((S 0 0 : Int) - 1) x1 && inR 0 ((S 0 0 : Int) - 1) x2 && inR 0 23 x3
theorem isD_t {S : Nat → Nat → Nat} {x0 x1 x2 x3 : Int32} (hb : S 0 2 ≤ 6) (h0 : 0 < bN (inR (nI 0).toInt (pI (S 0 2)).toInt x0)) (h1 : 0 < bN (inR 0 ((S 0 0 : Int) - 1) x1)) (h2 : 0 < bN (inR 0 ((S 0 0 : Int) - 1) x2)) (h3 : 0 < bN (inR (nI 0).toInt (nI 23).toInt x3)) : nI 1 = nI (bN (isD S x0 x1 x2 x3)) := by
  rw [pI_toInt (by omega)] at h0
  have e0 : inR 0 ((S 0 2 : Int) - 1) x0 = true := bN_pos h0
  have e3 : inR 0 23 x3 = true := bN_pos h3
  exact bN1 (by rw [isD, e0, bN_pos h1, bN_pos h2, e3]; rfl)
theorem isD_f {S : Nat → Nat → Nat} {x0 x1 x2 x3 : Int32} (hb : S 0 2 ≤ 6) (h : bN (inR (nI 0).toInt (pI (S 0 2)).toInt x0) = 0 ∨ bN (inR 0 ((S 0 0 : Int) - 1) x1) = 0 ∨ bN (inR 0 ((S 0 0 : Int) - 1) x2) = 0 ∨ bN (inR (nI 0).toInt (nI 23).toInt x3) = 0) : nI 0 = nI (bN (isD S x0 x1 x2 x3)) := by
  refine bN0 ?_
  unfold isD
  rcases h with h | h | h | h
  · rw [pI_toInt (by omega)] at h
    have e0 : inR 0 ((S 0 2 : Int) - 1) x0 = false := bN_zero h
    rw [e0]; rfl
  · rw [bN_zero h]; simp
  · rw [bN_zero h]; simp
  · have e3 : inR 0 23 x3 = false := bN_zero h
    rw [e3]; simp
theorem lpB2_n {S : Nat → Nat → Nat} {o : Nat → Bool} {r : Nat → Nat} {t n y : Nat} (h : (lpB S o r t n).2 = y) (h1 : ¬ (S 8 n / 2 = t ∧ sAt S o r n < y)) : (lpB S o r t (n + 1)).2 = y := by
  subst h
  rw [lpB_n rfl h1]
theorem lpB2_y {S : Nat → Nat → Nat} {o : Nat → Bool} {r : Nat → Nat} {t n y x : Nat} (h : (lpB S o r t n).2 = y) (h1 : S 8 n / 2 = t) (h2 : sAt S o r n < y) (h3 : sAt S o r n = x) : (lpB S o r t (n + 1)).2 = x := by
  subst h
  rw [lpB_y rfl h1 h2]
  exact h3
theorem Jn.nine {S : Nat → Nat → Nat} (h : Jn S) (j d : Nat) (hd : d < 2) : S 9 (2 * j + d) = S 9 (2 * j) := by
  rcases (show d = 0 ∨ d = 1 by omega) with rfl | rfl
  · rfl
  · exact (h.2 j).2.2
theorem bN_no {b : Bool} (h : bN b = 0) : ¬ b = true := by rw [bN_zero h]; decide
theorem Rb.le {r : Nat → Nat} (h : Rb r) (e : Nat) : r e ≤ 1000000 := by
  have := h e
  omega
theorem sBh_b {S : Nat → Nat → Nat} {o : Nat → Bool} {r : Nat → Nat} (h9 : ∀ p, S 9 p ≤ 100) (h2 : ∀ i, S 2 i ≤ 1000) (hr : Rb r) (p : Nat) : sBh S o r p = 1000000 ∨ sBh S o r p ≤ 51100 := by
  have h1 := h9 p
  have h3 := h2 (S 8 p / 2)
  have h4 := hr (S 7 p)
  by_cases q : sAt S o r p = 1000000
  · exact Or.inl (sBh_none q)
  · rw [sBh_some q]
    by_cases z : o p = true ∧ r (S 7 p) ≠ 1000000
    · rw [sAt_some z.1 z.2]
      omega
    · exact absurd (sAt_none z) q
end
section
/-! The rounds come to rest: forty ends, each round that changes something brings one more end to its last value. Pure. -/
theorem sm_mono {f g : Nat → Nat} : ∀ n, (∀ i, i < n → f i ≤ g i) → sm f 0 n ≤ sm g 0 n
  | 0, _ => Nat.le_refl _
  | n + 1, h => by
    have h1 := sm_mono n (fun i hi => h i (by omega))
    have h2 := h n (by omega)
    unfold sm
    rw [Nat.zero_add]
    omega
theorem sm_strict {f g : Nat → Nat} {k : Nat} : ∀ n, (∀ i, i < n → f i ≤ g i) → k < n → f k < g k → sm f 0 n < sm g 0 n
  | 0, _, hk, _ => absurd hk (Nat.not_lt_zero _)
  | n + 1, h, hk, hs => by
    have h1 := sm_mono n (fun i hi => h i (by omega))
    have h2 := h n (by omega)
    unfold sm
    rw [Nat.zero_add]
    rcases Nat.lt_or_eq_of_le (Nat.le_of_lt_succ hk) with q | q
    · have h3 := sm_strict n (fun i hi => h i (by omega)) q hs
      omega
    · subst q
      omega
theorem sm_up {f g : Nat → Nat} {k : Nat} (h : ∀ i, i ≠ k → g i = f i) : ∀ n, k < n → sm g 0 n + f k = sm f 0 n + g k
  | 0, hk => absurd hk (Nat.not_lt_zero _)
  | n + 1, hk => by
    unfold sm
    rw [Nat.zero_add]
    rcases Nat.lt_or_eq_of_le (Nat.le_of_lt_succ hk) with q | q
    · have h3 := sm_up h n q
      have h4 := h n (by omega)
      omega
    · subst q
      have h5 : ∀ n, n ≤ k → sm g 0 n = sm f 0 n := by
        intro n
        induction n with
        | zero => intro _; rfl
        | succ n ih =>
          intro hn
          unfold sm
          rw [Nat.zero_add, ih (by omega), h n (by omega)]
      have := h5 k (Nat.le_refl _)
      omega
theorem sm_le1 {f : Nat → Nat} (h : ∀ i, f i ≤ 1) : ∀ n, sm f 0 n ≤ n := fun n => sm_le h n
/-- all are 1 where the sum is full -/
theorem sm_full {f : Nat → Nat} (h : ∀ i, f i ≤ 1) : ∀ n, n ≤ sm f 0 n → ∀ i, i < n → f i = 1
  | 0, _, i, hi => absurd hi (Nat.not_lt_zero _)
  | n + 1, hn, i, hi => by
    unfold sm at hn
    rw [Nat.zero_add] at hn
    have h1 := sm_le (a := 0) h n
    have h2 := h n
    rcases Nat.lt_or_eq_of_le (Nat.le_of_lt_succ hi) with q | q
    · exact sm_full h n (by omega) i q
    · subst q
      omega
theorem anyB_f {f : Nat → Bool} : ∀ n, anyB f n = false → ∀ i, i < n → f i = false
  | 0, _, i, hi => absurd hi (Nat.not_lt_zero _)
  | n + 1, h, i, hi => by
    unfold anyB at h
    have h1 : anyB f n = false ∧ f n = false := by
      cases h2 : anyB f n <;> cases h3 : f n <;> simp [h2, h3] at h ⊢
    rcases Nat.lt_or_eq_of_le (Nat.le_of_lt_succ hi) with q | q
    · exact anyB_f n h1.1 i q
    · rw [q]; exact h1.2
theorem anyB_e {f : Nat → Bool} : ∀ n, anyB f n = true → ∃ i, i < n ∧ f i = true
  | 0, h => by cases h
  | n + 1, h => by
    unfold anyB at h
    cases h2 : anyB f n with
    | true =>
      obtain ⟨i, hi, h3⟩ := anyB_e n h2
      exact ⟨i, by omega, h3⟩
    | false =>
      rw [h2] at h
      exact ⟨n, by omega, by simpa using h⟩
def wt (S : Nat → Nat → Nat) (p : Nat) : Nat := S 9 p + S 2 (S 8 p / 2)
/-- passages among N ends -/
def Gr (S : Nat → Nat → Nat) (N : Nat) : Prop := N ≤ 40 ∧ ∀ p, p < S 0 1 → S 7 p < N ∧ fl (S 8 p) < N ∧ S 7 p ≠ fl (S 8 p) ∧ 1 ≤ wt S p ∧ wt S p ≤ 1100 ∧ S 9 p ≤ 100
/-- how many ends have been reached -/
def cf (r : Nat → Nat) (n : Nat) : Nat := sm (fun e => if r e = 1000000 then 0 else 1) 0 n
theorem cf_le (r : Nat → Nat) (n : Nat) : cf r n ≤ n := sm_le (fun i => by split <;> omega) n
def Gd (S : Nat → Nat → Nat) (o : Nat → Bool) (N : Nat) (src : Nat → Bool) (r : Nat → Nat) : Prop :=
  (∀ e, e < N → r e = 1000000 ∨ r e ≤ 1100 * cf r N) ∧
  ∀ e, e < N → r e = 1000000 ∨ (r e = 0 ∧ src e = true) ∨ ∃ p, p < S 0 1 ∧ o p = true ∧ fl (S 8 p) = e ∧ r (S 7 p) ≠ 1000000 ∧ r (S 7 p) + wt S p ≤ r e
theorem Gd.sm {S : Nat → Nat → Nat} {o : Nat → Bool} {N : Nat} {src : Nat → Bool} {r : Nat → Nat} (h : Gd S o N src r) (hN : N ≤ 40) {e : Nat} (he : e < N) : r e = 1000000 ∨ r e ≤ 44000 := by
  have h1 := h.1 e he
  have h2 := cf_le r N
  rcases h1 with h1 | h1
  · exact Or.inl h1
  · right
    have : 1100 * cf r N ≤ 1100 * 40 := Nat.mul_le_mul_left _ (by omega)
    omega
theorem sBh_g {S : Nat → Nat → Nat} {o : Nat → Bool} {r : Nat → Nat} {p : Nat} (h9 : S 9 p ≤ 100) (h : r (S 7 p) = 1000000 ∨ r (S 7 p) ≤ 44000) : sBh S o r p = if o p = true ∧ r (S 7 p) ≠ 1000000 then r (S 7 p) + wt S p else 1000000 := by
  by_cases q : o p = true ∧ r (S 7 p) ≠ 1000000
  · have h1 := sAt_some q.1 q.2
    have h2 : r (S 7 p) ≤ 44000 := by
      have := q.2
      omega
    rw [if_pos q, sBh_some (by omega), h1, wt]
    omega
  · rw [if_neg q, sBh_none (sAt_none q)]
theorem rlx_le (S : Nat → Nat → Nat) (o : Nat → Bool) (r : Nat → Nat) (p e : Nat) : rlx S o r p e ≤ r e := by
  unfold rlx
  split
  · unfold up1
    split
    · rename_i h1 h2
      rw [h2]
      omega
    · exact Nat.le_refl _
  · exact Nat.le_refl _
theorem rlx_at (S : Nat → Nat → Nat) (o : Nat → Bool) (r : Nat → Nat) (p : Nat) : rlx S o r p (fl (S 8 p)) ≤ sBh S o r p := by
  unfold rlx
  split
  · rw [up1_same]
    exact Nat.le_refl _
  · omega
theorem rlx_Gd {S : Nat → Nat → Nat} {o : Nat → Bool} {N : Nat} {src : Nat → Bool} {r : Nat → Nat} {p : Nat} (hG : Gr S N) (hp : p < S 0 1) (h : Gd S o N src r) : Gd S o N src (rlx S o r p) := by
  obtain ⟨g1, g2, g3, g4, g5, g6⟩ := hG.2 p hp
  have hs := h.sm hG.1 g1
  have hb := sBh_g (o := o) g6 hs
  by_cases q : sBh S o r p < r (fl (S 8 p))
  · have he := h.sm hG.1 g2
    have hop : o p = true ∧ r (S 7 p) ≠ 1000000 := by
      refine Classical.byContradiction fun z => ?_
      rw [hb, if_neg z] at q
      omega
    rw [if_pos hop] at hb
    have hr : rlx S o r p = up1 r (fl (S 8 p)) (r (S 7 p) + wt S p) := by
      rw [rlx, if_pos q, hb]
    rw [hr]
    generalize hx : fl (S 8 p) = x at *
    have hsm : r (S 7 p) ≤ 44000 := by
      have := hop.2
      omega
    have hv : r (S 7 p) + wt S p ≠ 1000000 := by omega
    have hc : cf (up1 r x (r (S 7 p) + wt S p)) N = cf r N + (if r x = 1000000 then 1 else 0) := by
      have h1 := sm_up (f := fun e => if r e = 1000000 then 0 else 1) (g := fun e => if up1 r x (r (S 7 p) + wt S p) e = 1000000 then 0 else 1) (k := x) (fun i hi => by rw [up1_ne _ _ hi]) N g2
      simp only [up1_same, if_neg hv] at h1
      unfold cf
      split
      · rename_i h2
        rw [if_pos h2] at h1
        omega
      · rename_i h2
        rw [if_neg h2] at h1
        omega
    refine ⟨fun e hel => ?_, fun e hel => ?_⟩
    · rw [hc]
      by_cases z : e = x
      · subst z
        rw [up1_same]
        right
        by_cases y : r e = 1000000
        · rw [if_pos y]
          have := (h.1 _ g1).resolve_left hop.2
          omega
        · rw [if_neg y]
          have := (h.1 _ hel).resolve_left y
          omega
      · rw [up1_ne _ _ z]
        rcases h.1 e hel with y | y
        · exact Or.inl y
        · right
          have : cf r N ≤ cf r N + (if r x = 1000000 then 1 else 0) := Nat.le_add_right _ _
          have := Nat.mul_le_mul_left 1100 this
          omega
    · by_cases z : e = x
      · subst z
        right; right
        refine ⟨p, hp, hop.1, hx, ?_, ?_⟩
        · rw [up1_ne _ _ g3]
          exact hop.2
        · rw [up1_ne _ _ g3, up1_same]
          exact Nat.le_refl _
      · rw [up1_ne _ _ z]
        rcases h.2 e hel with y | y | ⟨p', y1, y2, y3, y4, y5⟩
        · exact Or.inl y
        · exact Or.inr (Or.inl y)
        · right; right
          refine ⟨p', y1, y2, y3, ?_, ?_⟩
          · by_cases w : S 7 p' = x
            · rw [w, up1_same]
              exact hv
            · rw [up1_ne _ _ w]
              exact y4
          · by_cases w : S 7 p' = x
            · rw [w] at y5 ⊢
              rw [up1_same]
              rw [hb] at q
              omega
            · rw [up1_ne _ _ w]
              exact y5
  · rw [rlx, if_neg q]
    exact h
theorem rnd_Gd {S : Nat → Nat → Nat} {o : Nat → Bool} {N : Nat} {src : Nat → Bool} {r : Nat → Nat} (hG : Gr S N) (h : Gd S o N src r) : ∀ k, k ≤ S 0 1 → Gd S o N src (rnd S o r k)
  | 0, _ => h
  | k + 1, hk => rlx_Gd hG (by omega) (rnd_Gd hG h k (by omega))
theorem rnd_le (S : Nat → Nat → Nat) (o : Nat → Bool) (r : Nat → Nat) (e k : Nat) : ∀ j, rnd S o r (k + j) e ≤ rnd S o r k e
  | 0 => Nat.le_refl _
  | j + 1 => Nat.le_trans (rlx_le _ _ _ _ _) (rnd_le S o r e k j)
theorem rnd_mono (S : Nat → Nat → Nat) (o : Nat → Bool) (r : Nat → Nat) (e : Nat) {k n : Nat} (h : k ≤ n) : rnd S o r n e ≤ rnd S o r k e := by
  obtain ⟨j, rfl⟩ := Nat.exists_eq_add_of_le h
  exact rnd_le S o r e k j
def itr (S : Nat → Nat → Nat) (o : Nat → Bool) (r : Nat → Nat) : Nat → Nat → Nat
  | 0 => r
  | n + 1 => rnd S o (itr S o r n) (S 0 1)
/-- whether one of the first k passages changes something in this round -/
def chg (S : Nat → Nat → Nat) (o : Nat → Bool) (r : Nat → Nat) (k : Nat) : Bool := anyB (fun p => decide (sBh S o (rnd S o r p) p < rnd S o r p (fl (S 8 p)))) k
theorem chg_f {S : Nat → Nat → Nat} {o : Nat → Bool} {r : Nat → Nat} : ∀ k, chg S o r k = false → rnd S o r k = r
  | 0, _ => rfl
  | k + 1, h => by
    have h1 : chg S o r k = false ∧ ¬ sBh S o (rnd S o r k) k < rnd S o r k (fl (S 8 k)) := by
      refine ⟨?_, ?_⟩
      · cases h2 : chg S o r k with
        | false => rfl
        | true =>
          obtain ⟨i, hi, h3⟩ := anyB_e k h2
          have := anyB_f (k + 1) h i (by omega)
          rw [this] at h3
          cases h3
      · have := anyB_f (k + 1) h k (by omega)
        simpa using this
    show rlx S o (rnd S o r k) k = r
    rw [rlx, if_neg h1.2]
    exact chg_f k h1.1
theorem chg_t {S : Nat → Nat → Nat} {o : Nat → Bool} {N : Nat} {r : Nat → Nat} (hG : Gr S N) (h : chg S o r (S 0 1) = true) : ∃ e, e < N ∧ rnd S o r (S 0 1) e < r e := by
  obtain ⟨p, hp, h1⟩ := anyB_e _ h
  have h2 : sBh S o (rnd S o r p) p < rnd S o r p (fl (S 8 p)) := by simpa using h1
  refine ⟨fl (S 8 p), (hG.2 p hp).2.1, ?_⟩
  have h3 := rnd_mono S o r (fl (S 8 p)) (show p + 1 ≤ S 0 1 by omega)
  have h4 : rnd S o r (p + 1) (fl (S 8 p)) ≤ sBh S o (rnd S o r p) p := rlx_at S o (rnd S o r p) p
  have h5 : rnd S o r p (fl (S 8 p)) ≤ r (fl (S 8 p)) := rnd_mono S o r _ (Nat.zero_le p)
  omega
theorem itr_s (S : Nat → Nat → Nat) (o : Nat → Bool) (r : Nat → Nat) : ∀ n, itr S o (rnd S o r (S 0 1)) n = itr S o r (n + 1)
  | 0 => rfl
  | n + 1 => by
    show rnd S o (itr S o (rnd S o r (S 0 1)) n) (S 0 1) = rnd S o (itr S o r (n + 1)) (S 0 1)
    rw [itr_s S o r n]
theorem itr_step (S : Nat → Nat → Nat) (o : Nat → Bool) (r : Nat → Nat) (n e : Nat) : itr S o r (n + 1) e ≤ itr S o r n e := rnd_mono S o (itr S o r n) e (Nat.zero_le _)
theorem itr_mono (S : Nat → Nat → Nat) (o : Nat → Bool) (r : Nat → Nat) (e n : Nat) : ∀ j, itr S o r (n + j) e ≤ itr S o r n e
  | 0 => Nat.le_refl _
  | j + 1 => Nat.le_trans (itr_step S o r (n + j) e) (itr_mono S o r e n j)
theorem itr_rest {S : Nat → Nat → Nat} {o : Nat → Bool} {r : Nat → Nat} {n : Nat} (h : chg S o (itr S o r n) (S 0 1) = false) : ∀ j, itr S o r (n + j) = itr S o r n
  | 0 => rfl
  | j + 1 => by
    show rnd S o (itr S o r (n + j)) (S 0 1) = _
    rw [itr_rest h j]
    exact chg_f _ h
theorem itr_Gd {S : Nat → Nat → Nat} {o : Nat → Bool} {N : Nat} {src : Nat → Bool} {r : Nat → Nat} (hG : Gr S N) (h : Gd S o N src r) : ∀ n, Gd S o N src (itr S o r n)
  | 0 => h
  | n + 1 => rnd_Gd hG (itr_Gd hG h n) _ (Nat.le_refl _)
theorem itr_end {S : Nat → Nat → Nat} {o : Nat → Bool} {N : Nat} (hG : Gr S N) : ∀ (n : Nat) (r : Nat → Nat), sm r 0 N ≤ n → ∃ M, chg S o (itr S o r M) (S 0 1) = false := by
  intro n
  induction n with
  | zero =>
    intro r hr
    refine ⟨0, ?_⟩
    cases h : chg S o (itr S o r 0) (S 0 1) with
    | false => rfl
    | true =>
      obtain ⟨e, he, h1⟩ := chg_t hG h
      have h2 := sm_strict (f := rnd S o r (S 0 1)) (g := r) N (fun i _ => rnd_mono S o r i (Nat.zero_le _)) he h1
      omega
  | succ n ih =>
    intro r hr
    cases h : chg S o r (S 0 1) with
    | false => exact ⟨0, h⟩
    | true =>
      obtain ⟨e, he, h1⟩ := chg_t hG h
      have h2 := sm_strict (f := rnd S o r (S 0 1)) (g := r) N (fun i _ => rnd_mono S o r i (Nat.zero_le _)) he h1
      obtain ⟨M, hM⟩ := ih (rnd S o r (S 0 1)) (by omega)
      rw [itr_s] at hM
      exact ⟨M + 1, hM⟩
/-- after so many rounds as there are ends nothing changes -/
theorem itr_40 {S : Nat → Nat → Nat} {o : Nat → Bool} {N : Nat} {src : Nat → Bool} {r : Nat → Nat} (hG : Gr S N) (h : Gd S o N src r) (hsrc : ∀ e, e < N → src e = true → r e = 0) (he0 : ∃ e, e < N ∧ r e = 0) (n : Nat) (hn : chg S o (itr S o r n) (S 0 1) = true) : n < 40 := by
  obtain ⟨M, hM⟩ := itr_end (o := o) hG _ r (Nat.le_refl _)
  generalize hd : itr S o r M = d at hM
  have hrest : ∀ j, itr S o r (M + j) = d := fun j => by rw [← hd]; exact itr_rest (by rw [hd]; exact hM) j
  have hdl : ∀ i e, d e ≤ itr S o r i e := fun i e => by
    have h1 := hrest i
    have h2 := itr_mono S o r e i M
    rw [Nat.add_comm] at h2
    rw [h1] at h2
    exact h2
  have hdG : Gd S o N src d := hd ▸ itr_Gd hG h M
  have key : ∀ i, (∀ e, e < N → itr S o r i e = d e) ∨ i + 1 ≤ sm (fun e => if itr S o r i e = d e then 1 else 0) 0 N := by
    intro i
    induction i with
    | zero =>
      right
      obtain ⟨e, he, h1⟩ := he0
      have h2 : itr S o r 0 e = d e := by
        have := hdl 0 e
        have h3 : itr S o r 0 e = 0 := h1
        omega
      have h3 := sm_strict (f := fun _ => 0) (g := fun e => if itr S o r 0 e = d e then 1 else 0) N (fun i _ => Nat.zero_le _) he (by show 0 < _; rw [if_pos h2]; decide)
      omega
    | succ i ih =>
      rcases ih with ih | ih
      · left
        intro e he
        have h1 := ih e he
        have h2 := hdl (i + 1) e
        have h3 := itr_step S o r i e
        omega
      · by_cases hall : ∀ e, e < N → itr S o r i e = d e
        · left
          intro e he
          have h1 := hall e he
          have h2 := hdl (i + 1) e
          have h3 := itr_step S o r i e
          omega
        · right
          have hex : ∃ v, ∃ e, e < N ∧ itr S o r i e ≠ d e ∧ d e = v := by
            refine Classical.byContradiction fun q => hall fun e he => ?_
            refine Classical.byContradiction fun z => q ⟨d e, e, he, z, rfl⟩
          obtain ⟨v, ⟨e, he, hne, hv⟩, hmin⟩ := pk_least _ hex
          have hlt : d e < itr S o r i e := by
            have := hdl i e
            omega
          have hi0 : itr S o r i e ≤ r e := by
            have := itr_mono S o r e 0 i
            rw [Nat.zero_add] at this
            exact this
          have hsm := (itr_Gd hG h i).sm hG.1 he
          have hdn : d e ≠ 1000000 := by omega
          rcases hdG.2 e he with y | ⟨y1, y2⟩ | ⟨p, y1, y2, y3, y4, y5⟩
          · exact absurd y hdn
          · have := hsrc e he y2
            omega
          · obtain ⟨g1, g2, g3, g4, g5, g6⟩ := hG.2 p y1
            have hst : itr S o r i (S 7 p) = d (S 7 p) := by
              refine Classical.byContradiction fun z => ?_
              exact hmin (d (S 7 p)) (by omega) ⟨S 7 p, g1, z, rfl⟩
            have hq1 : rnd S o (itr S o r i) p (S 7 p) ≤ itr S o r i (S 7 p) := rnd_mono S o _ _ (Nat.zero_le p)
            have hq2 : itr S o r (i + 1) (S 7 p) ≤ rnd S o (itr S o r i) p (S 7 p) := rnd_mono S o _ _ (Nat.le_of_lt y1)
            have hq3 := hdl (i + 1) (S 7 p)
            have hq : rnd S o (itr S o r i) p (S 7 p) = d (S 7 p) := by omega
            have hb := sBh_g (o := o) (r := rnd S o (itr S o r i) p) g6 (by rw [hq]; exact hdG.sm hG.1 g1)
            rw [hq, if_pos ⟨y2, y4⟩] at hb
            have h5 : itr S o r (i + 1) e ≤ d e := by
              have a1 : itr S o r (i + 1) (fl (S 8 p)) ≤ rnd S o (itr S o r i) (p + 1) (fl (S 8 p)) := rnd_mono S o _ _ y1
              have a2 : rnd S o (itr S o r i) (p + 1) (fl (S 8 p)) ≤ sBh S o (rnd S o (itr S o r i) p) p := rlx_at _ _ _ _
              rw [y3] at a1 a2
              omega
            have h6 : itr S o r (i + 1) e = d e := by
              have := hdl (i + 1) e
              omega
            have h7 := sm_strict (f := fun e => if itr S o r i e = d e then 1 else 0) (g := fun e => if itr S o r (i + 1) e = d e then 1 else 0) N (fun x _ => by
              show (if itr S o r i x = d x then 1 else 0) ≤ (if itr S o r (i + 1) x = d x then 1 else 0)
              by_cases z : itr S o r i x = d x
              · have b1 := hdl (i + 1) x
                have b2 := itr_step S o r i x
                rw [if_pos z, if_pos (by omega)]
                exact Nat.le_refl _
              · rw [if_neg z]
                exact Nat.zero_le _) he (by
              show (if itr S o r i e = d e then 1 else 0) < (if itr S o r (i + 1) e = d e then 1 else 0)
              rw [if_neg hne, if_pos h6]
              decide)
            omega
  have hfin : ∀ i, 40 ≤ i → ∀ e, e < N → itr S o r i e = d e := by
    intro i hi e he
    have h39 : ∀ e, e < N → itr S o r 39 e = d e := by
      rcases key 39 with q | q
      · exact q
      · intro e he
        have hN := hG.1
        have h1 := sm_full (f := fun e => if itr S o r 39 e = d e then 1 else 0) (fun i => by split <;> omega) N (by omega) e he
        refine Classical.byContradiction fun z => ?_
        simp only [if_neg z] at h1
        omega
    have h1 := h39 e he
    have h2 := itr_mono S o r e 39 (i - 39)
    rw [show 39 + (i - 39) = i by omega] at h2
    have h3 := hdl i e
    omega
  refine Classical.byContradiction fun q => ?_
  obtain ⟨e, he, h1⟩ := chg_t hG hn
  have h2 := hfin n (by omega) e he
  have h3 : itr S o r (n + 1) e = d e := hfin (n + 1) (by omega) e he
  have h4 : itr S o r (n + 1) e < itr S o r n e := h1
  omega
end
section
/-! What is reached from a piece. -/
theorem bN_lt (b : Bool) : bN b < 2 ^ 31 := by have := bN_le b; omega
def src0 (S : Nat → Nat → Nat) (a e : Nat) : Bool := decide (e / 2 = a) && mvL S e
/-- at first: the first piece's ends by which it may be left; what lies above is as it was -/
def rs (S : Nat → Nat → Nat) (a : Nat) (old : Nat → Nat) : Nat → Nat := fun e => if e < 2 * S 0 0 then (if src0 S a e = true then 0 else 1000000) else old e
theorem rs_A {S Z : Nat → Nat → Nat} {a : Nat} (ha : a < S 0 0) (h4 : S 4 a ≤ 1) : (S 4 a = 0 → up1 (fun j => if j < 2 * S 0 0 then 1000000 else Z 1 j) (2 * a + 1) 0 = rs S a (Z 1)) ∧ (0 < S 4 a → up1 (up1 (fun j => if j < 2 * S 0 0 then 1000000 else Z 1 j) (2 * a + 1) 0) (2 * a) 0 = rs S a (Z 1)) := by
  refine ⟨fun h => ?_, fun h => ?_⟩
  · funext j
    unfold up1 rs
    by_cases q : j = 2 * a + 1
    · subst q
      rw [if_pos rfl, if_pos (by omega), if_pos]
      unfold src0 mvL
      rw [decide_eq_true (by omega), decide_eq_true (by omega)]
      rfl
    · rw [if_neg q]
      dsimp only
      by_cases z : j < 2 * S 0 0
      · rw [if_pos z, if_pos z, if_neg]
        intro w
        unfold src0 mvL at w
        simp at w
        obtain ⟨w1, w2⟩ := w
        rw [w1] at w2
        omega
      · rw [if_neg z, if_neg z]
  · funext j
    unfold up1 rs
    by_cases q : j = 2 * a + 1
    · subst q
      rw [if_neg (by omega), if_pos rfl, if_pos (by omega), if_pos]
      unfold src0 mvL
      rw [decide_eq_true (by omega), decide_eq_true (by omega)]
      rfl
    · by_cases y : j = 2 * a
      · subst y
        rw [if_pos rfl, if_pos (by omega), if_pos]
        unfold src0 mvL
        rw [show 2 * a / 2 = a by omega, decide_eq_true rfl, decide_eq_true (show S 4 a = 1 by omega)]
        simp
      · rw [if_neg y, if_neg q]
        dsimp only
        by_cases z : j < 2 * S 0 0
        · rw [if_pos z, if_pos z, if_neg]
          intro w
          unfold src0 mvL at w
          simp at w
          omega
        · rw [if_neg z, if_neg z]
theorem fillA_s (Z : Nat → Nat → Nat) (f i v : Nat) : up2 (upR Z f (fun j => if j < i then v else Z f j)) f i v = upR Z f (fun j => if j < i + 1 then v else Z f j) := by
  rw [up2, upR_upR, upR_same]
  refine congrArg (upR Z f) (funext fun j => ?_)
  unfold up1
  by_cases q : j = i
  · rw [if_pos q, if_pos (by omega)]
  · rw [if_neg q]
    dsimp only
    by_cases z : j < i
    · rw [if_pos z, if_pos (by omega)]
    · rw [if_neg z, if_neg (by omega)]
theorem fillA_0 (Z : Nat → Nat → Nat) (f v : Nat) : Z = upR Z f (fun j => if j < 0 then v else Z f j) := by
  have : (fun j => if j < 0 then v else Z f j) = Z f := funext fun j => if_neg (Nat.not_lt_zero _)
  rw [this, upR_id]
def Okr (S : Nat → Nat → Nat) (o : Nat → Bool) (N : Nat) (src : Nat → Bool) (r : Nat → Nat) : Prop := Gd S o N src r ∧ Rb r
theorem rlx_out {S : Nat → Nat → Nat} {o : Nat → Bool} {N : Nat} {r : Nat → Nat} {p e : Nat} (hG : Gr S N) (hp : p < S 0 1) (he : N ≤ e) : rlx S o r p e = r e := by
  have := (hG.2 p hp).2.1
  unfold rlx
  split
  · exact up1_ne _ _ (by omega)
  · rfl
theorem Okr.rlx {S : Nat → Nat → Nat} {o : Nat → Bool} {N : Nat} {src : Nat → Bool} {r : Nat → Nat} {p : Nat} (hG : Gr S N) (hp : p < S 0 1) (h : Okr S o N src r) : Okr S o N src (rlx S o r p) := by
  have h1 := rlx_Gd hG hp h.1
  refine ⟨h1, fun e => ?_⟩
  by_cases q : e < N
  · have := h1.sm hG.1 q
    omega
  · rw [rlx_out hG hp (by omega)]
    exact h.2 e
theorem Okr.rnd {S : Nat → Nat → Nat} {o : Nat → Bool} {N : Nat} {src : Nat → Bool} {r : Nat → Nat} (hG : Gr S N) (h : Okr S o N src r) : ∀ k, k ≤ S 0 1 → Okr S o N src (rnd S o r k)
  | 0, _ => h
  | k + 1, hk => Okr.rlx hG (by omega) (Okr.rnd hG h k (by omega))
theorem Okr.itr {S : Nat → Nat → Nat} {o : Nat → Bool} {N : Nat} {src : Nat → Bool} {r : Nat → Nat} (hG : Gr S N) (h : Okr S o N src r) : ∀ n, Okr S o N src (itr S o r n)
  | 0 => h
  | n + 1 => Okr.rnd hG (Okr.itr hG h n) _ (Nat.le_refl _)
theorem rs_Okr {S : Nat → Nat → Nat} {o : Nat → Bool} {a : Nat} {old : Nat → Nat} (h : Rb old) : Okr S o (2 * S 0 0) (src0 S a) (rs S a old) := by
  refine ⟨⟨fun e he => ?_, fun e he => ?_⟩, fun e => ?_⟩
  · unfold rs
    rw [if_pos he]
    split
    · right; omega
    · left; rfl
  · unfold rs
    rw [if_pos he]
    split
    · rename_i q
      exact Or.inr (Or.inl ⟨rfl, q⟩)
    · left; rfl
  · unfold rs
    split
    · split
      · right; omega
      · left; rfl
    · exact h e
theorem src0_1 {S : Nat → Nat → Nat} {a : Nat} : src0 S a (2 * a + 1) = true := by
  unfold src0 mvL
  rw [decide_eq_true (show (2 * a + 1) / 2 = a by omega), decide_eq_true (show (2 * a + 1) % 2 = 1 by omega)]
  rfl
/-- the rounds from a piece: they rest after forty -/
theorem rs_40 {S : Nat → Nat → Nat} {o : Nat → Bool} {a : Nat} {old : Nat → Nat} (hG : Gr S (2 * S 0 0)) (h : Rb old) (ha : a < S 0 0) (n : Nat) (hn : chg S o (itr S o (rs S a old) n) (S 0 1) = true) : n < 40 := by
  refine itr_40 hG (rs_Okr (o := o) (a := a) h).1 (fun e he hs => ?_) ⟨2 * a + 1, by omega, ?_⟩ n hn
  · unfold rs
    rw [if_pos he, if_pos hs]
  · unfold rs
    rw [if_pos (by omega), if_pos src0_1]
theorem rs_fin {S : Nat → Nat → Nat} {o : Nat → Bool} {a : Nat} {old : Nat → Nat} (hG : Gr S (2 * S 0 0)) (h : Rb old) (ha : a < S 0 0) (n : Nat) (hn : n < 40 → chg S o (itr S o (rs S a old) n) (S 0 1) = false) : itr S o (rs S a old) n = itr S o (rs S a old) 40 := by
  have h40 : chg S o (itr S o (rs S a old) 40) (S 0 1) = false := by
    cases q : chg S o (itr S o (rs S a old) 40) (S 0 1) with
    | false => rfl
    | true => exact absurd (rs_40 hG h ha 40 q) (by omega)
  by_cases z : n < 40
  · have := itr_rest (hn z) (40 - n)
    rw [show n + (40 - n) = 40 by omega] at this
    exact this.symm
  · have := itr_rest h40 (n - 40)
    rw [show 40 + (n - 40) = n by omega] at this
    exact this
theorem chg_s (S : Nat → Nat → Nat) (o : Nat → Bool) (r : Nat → Nat) (k : Nat) : chg S o r (k + 1) = (chg S o r k || decide (sBh S o (rnd S o r k) k < rnd S o r k (fl (S 8 k)))) := rfl
theorem chg_y {S : Nat → Nat → Nat} {o : Nat → Bool} {r : Nat → Nat} {k : Nat} (h : 0 < bN (decide (sBh S o (rnd S o r k) k < rnd S o r k (fl (S 8 k))))) : 1 = bN (chg S o r (k + 1)) := by
  rw [chg_s, bN_pos h, Bool.or_true]
  rfl
theorem chg_o {S : Nat → Nat → Nat} {o : Nat → Bool} {r : Nat → Nat} {k f : Nat} (hf : f = bN (chg S o r k)) (h : 0 < f) : 1 = bN (chg S o r (k + 1)) := by
  rw [hf] at h
  rw [chg_s, bN_pos h]
  rfl
theorem chg_z {S : Nat → Nat → Nat} {o : Nat → Bool} {r : Nat → Nat} {k f : Nat} (hf : f = bN (chg S o r k)) (h : f = 0) (h2 : bN (decide (sBh S o (rnd S o r k) k < rnd S o r k (fl (S 8 k)))) = 0) : 0 = bN (chg S o r (k + 1)) := by
  rw [hf] at h
  rw [chg_s, bN_zero h, bN_zero h2]
  rfl
theorem chg_c {S : Nat → Nat → Nat} {o : Nat → Bool} {r : Nat → Nat} (h : chg S o r (S 0 1) = false) : chg S o (rnd S o r (S 0 1)) (S 0 1) = false := by rw [chg_f _ h]; exact h
theorem chg_d {S : Nat → Nat → Nat} {o : Nat → Bool} {r : Nat → Nat} {f t : Nat} (h : chg S o r (S 0 1) = true → t < 40) (hf : f = bN (chg S o r (S 0 1))) : f = 1 ∧ t + 1 ≤ 40 ∨ f = 0 ∧ chg S o (rnd S o r (S 0 1)) (S 0 1) = false := by
  cases q : chg S o r (S 0 1) with
  | true =>
    left
    rw [q] at hf
    exact ⟨hf, h q⟩
  | false =>
    right
    rw [q] at hf
    exact ⟨hf, chg_c q⟩
end
section
/-! Arrays' contents beyond their length, worlds with one place told otherwise; a static method that writes. -/
theorem arrV_c {cA : ClassId} {n : Nat} {f g : Nat → Value} (h : ∀ j, j < n → f j = g j) : arrV cA n f = arrV cA n g := by
  unfold arrV
  have : (fun j : Fin n => f j.val) = fun j : Fin n => g j.val := funext fun j => h j.val j.isLt
  rw [this]
theorem va_P_alt {D : va_G} {cl : List vw_C} {ws : va_W} {H : Heap} {i x : Nat} {e e' : va_E} (h : va_P D cl ws H) (hi : ws[i]? = some (x, e)) (he : va_at D cl (x, e) H → va_at D cl (x, e') H) : va_P D cl (ws.set i (x, e')) H := by
  intro k q hk
  by_cases z : k = i
  · subst z
    have hlt := (List.getElem?_eq_some_iff.mp hi).1
    rw [List.getElem?_set_self hlt] at hk
    cases hk
    exact he (h k _ hi)
  · rw [List.getElem?_set_ne (by omega)] at hk
    exact h k q hk
/-- an array of ints is known by its places below its length -/
theorem va_P_int {D : va_G} {cl : List vw_C} {ws : va_W} {H : Heap} {i x n : Nat} {cA : ClassId} {f g : Nat → Int32} (h : va_P D cl ws H) (hi : ws[i]? = some (x, .inl (cA, n, .inl f))) (hfg : ∀ j, j < n → f j = g j) : va_P D cl (ws.set i (x, .inl (cA, n, .inl g))) H := by
  refine va_P_alt h hi (fun q => ?_)
  have e : vp_cell cA (n, .inl f) = vp_cell cA (n, .inl g) := by
    rw [vp_cell_i, vp_cell_i]
    exact arrV_c (fun j hj => by rw [hfg j hj])
  have q2 : H[x]? = some (vp_cell cA (n, .inl f)) := q
  rw [e] at q2
  exact q2
theorem va_D_set {A : Nat → Prop} {ws : va_W} {i x : Nat} {e e' : va_E} (h : va_D A ws) (hi : ws[i]? = some (x, e)) : va_D A (ws.set i (x, e')) := h.set hi
section NC2
variable {p : Program} {l : Launch} {e : Env} {R : Room} {s : State} {m : MethodId} {args : Array Value} {below : List Frame} {meth : Method} {c : Code} {H : Heap} {locs : List Loc} {cells slots : Nat} {Q : State → Prop}
variable {cc : ByteArray} {pc : Nat} {ls : Array Slot} {rest As stk : List Value} {D : va_G} {k : Nat → ClassId} {A : Nat → Prop} {b : Nat} {H0 : Heap} {Wd : va_W}
variable {y : MethodName} {bytes : ByteArray} {maxL nL n index mc ms : Nat} {ret : Option FieldType} {ws : List Cond} {rm : Room} {Ts : List Cond} {own C host : String} {v : Int32}
theorem wr_Sv {σ : Type} {F : σ → va_W} {post : σ → Prop} (S : CallFix p m c cc nL s args Ts own) (hM : Met l y ws rm (va_Pc As (wB D k Wd H.size)) (va_Qv post (fun u t => wE D (va_A Wd H.size) (F u) t) (va_A Wd H.size)) mc ms (va_A Wd H.size)) (cw : CallB R s args own index y bytes maxL ret ws rm mc ms n ∧ (Cond.static y).before args s = true)
    (hX : KX D k s) (hP : va_P D vwCl Wd H) (hD : va_D A Wd) (hS : va_S A H0 H locs) (hA : ∀ q, H0.size ≤ q → A q) (hn : As.length = n) (hsize : ls.size = nL) (hstk : stk = As.reverse ++ rest) (h8 : (rest.map fun v => v.category).sum ≤ 8)
    (hdg : decode cc pc = .ok (.invokestatic index, 3)) (hf : cells + mc ≤ R.cells ∧ slots + ms ≤ R.slots) (kk : ∀ (u : σ) (H1 : Heap) (locs1 : List Loc), post u → va_P D vwCl (F u) H1 → va_D A (F u) → va_S A H0 H1 locs1 → W p l e R s m args below meth c H1 locs1 (cells + mc) (slots + ms) Q (F0 m (pc + 3) ls rest)) : W p l e R s m args below meth c H locs cells slots Q (F0 m pc ls stk) := by
  subst hstk
  have hFc := wA_free hD hS hA
  refine va_callv (va_runS (As := As) (rest := rest) S hM cw ⟨wB_blind, fun U hU hW => ⟨rfl, by rw [hU], by rw [hU]; exact hP, hX.warm hW, hD.weaken (fun _ _ _ _ => trivial)⟩⟩ rfl hn hsize rfl (lv_room h8) hdg hf) hS (fun q _ h => hFc q h) hFc (fun u t H1 locs1 ht hvm hw hB hz1 hk1 hS1 => ?_)
  obtain ⟨hP1, hD1⟩ := hB
  rw [ht] at hP1
  exact kk u H1 locs1 hw hP1 (hD1.weaken (fun _ _ _ h => hFc _ h)) hS1
end NC2
theorem fillG_s (Z : Nat → Nat → Nat) (f i : Nat) (F : Nat → Nat) {v : Nat} (hv : v = F i) : up2 (upR Z f (fun j => if j < i then F j else Z f j)) f i v = upR Z f (fun j => if j < i + 1 then F j else Z f j) := by
  rw [up2, upR_upR, upR_same, hv]
  refine congrArg (upR Z f) (funext fun j => ?_)
  unfold up1
  by_cases q : j = i
  · rw [if_pos q, if_pos (by omega), q]
  · rw [if_neg q]
    dsimp only
    by_cases z : j < i
    · rw [if_pos z, if_pos (by omega)]
    · rw [if_neg z, if_neg (by omega)]
theorem fillG_0 (Z : Nat → Nat → Nat) (f : Nat) (F : Nat → Nat) : Z = upR Z f (fun j => if j < 0 then F j else Z f j) := by
  have : (fun j => if j < 0 then F j else Z f j) = Z f := funext fun j => if_neg (Nat.not_lt_zero _)
  rw [this, upR_id]
/-- the first i ends told: those by which the first piece may be left are reached at 0 -/
def rG (S : Nat → Nat → Nat) (a i : Nat) : Nat → Nat := fun j => if j < i ∧ src0 S a j = true then 0 else 1000000
theorem src0_div {S : Nat → Nat → Nat} {a j : Nat} (h : src0 S a j = true) : j / 2 = a ∧ mvL S j = true := by
  unfold src0 at h
  simp at h
  exact h
theorem src0_of {S : Nat → Nat → Nat} {a j : Nat} (h : j / 2 = a) (h2 : mvL S j = true) : src0 S a j = true := by
  unfold src0
  rw [decide_eq_true h, h2]
  rfl
theorem rG_0 (S : Nat → Nat → Nat) (a : Nat) : (fun _ => 1000000) = rG S a (2 * a) := by
  funext j
  unfold rG
  rw [if_neg]
  intro q
  have := (src0_div q.2).1
  omega
theorem rG_y {S : Nat → Nat → Nat} {a i : Nat} (hi : i / 2 = a) (h : mvL S i = true) : up1 (rG S a i) i 0 = rG S a (i + 1) := by
  funext j
  unfold up1 rG
  by_cases q : j = i
  · subst q
    rw [if_pos rfl, if_pos ⟨by omega, src0_of hi h⟩]
  · rw [if_neg q]
    by_cases z : j < i ∧ src0 S a j = true
    · rw [if_pos z, if_pos ⟨by omega, z.2⟩]
    · rw [if_neg z, if_neg]
      intro w
      exact z ⟨by omega, w.2⟩
theorem rG_n {S : Nat → Nat → Nat} {a i : Nat} (h : mvL S i = false) : rG S a i = rG S a (i + 1) := by
  funext j
  unfold rG
  by_cases z : j < i ∧ src0 S a j = true
  · rw [if_pos z, if_pos ⟨by omega, z.2⟩]
  · rw [if_neg z, if_neg]
    intro w
    by_cases q : j = i
    · subst q
      have := (src0_div w.2).2
      rw [h] at this
      cases this
    · exact z ⟨by omega, w.2⟩
theorem rG_e {S : Nat → Nat → Nat} {a : Nat} (ha : a < S 0 0) : rG S a (2 * a + 2) = rs S a (fun _ => 1000000) := by
  funext j
  unfold rG rs
  by_cases z : src0 S a j = true
  · have := (src0_div z).1
    rw [if_pos ⟨by omega, z⟩, if_pos (by omega), if_pos z]
  · rw [if_neg (fun q => z q.2), if_neg z]
    split <;> rfl
theorem Rb_nv : Rb (fun _ => 1000000) := fun _ => Or.inl rfl
theorem rG_le (S : Nat → Nat → Nat) (a i e : Nat) : rG S a i e ≤ 1000000 := by
  unfold rG
  split <;> omega
theorem chg_e {S : Nat → Nat → Nat} {o : Nat → Bool} {r : Nat → Nat} : bN (chg S o r (S 0 1)) = 1 ∨ bN (chg S o r (S 0 1)) = 0 ∧ chg S o (rnd S o r (S 0 1)) (S 0 1) = false := by
  cases q : chg S o r (S 0 1) with
  | true => exact Or.inl rfl
  | false => exact Or.inr ⟨rfl, chg_c q⟩
end
section
set_option maxHeartbeats 4000000 in
set_option maxRecDepth 100000 in
theorem k_X1_mayLeave (l : Launch) (D : va_G) (q : Nat → Nat) (k : Nat → ClassId) (r : Nat → Nat) (S Z : Nat → Nat → Nat) (e0 : Nat) (hB : Bd S) (he : e0 < 40) : Met l yX1_mayLeave wsX1_mayLeave ({ frames := 0, cells := 0, slots := 0, locals := 0 } : Room) (va_Pc [.ref (q 1), .int (nI e0)] (rB D k (wC q k r S Z))) (vp_Si (fun r => r = nI (bN (mvL S e0)))) 0 0 (fun _ => False) := by
  refine Met.ofW (cc := cX1_mayLeave) (maxL := 2) (ret := (some .boolean)) (by decide) rfl ?_
  intro p e s m args below meth c s₁ B hml hv
  obtain ⟨rfl, hP, hX⟩ := hv
  have hx := B.exec
  have hb := B.bytes
  have hr := B.returns
  have hts := atoms_spec (ws := wsX1_mayLeave) B.pre
  have hown : s.vm.findClass RX1 = some m.cls := findClass_of_methodNamed B.named
  have hlocks := B.notSynchronized
  have hf_21 := hts (.fieldLink RX1 21 "FloorGraph$Floor" "twoWay" "[Z") (by decide +kernel)
  have hin_X1 : ∀ w ∈ u_ws RX1 TX1 14, w ∈ wsX1_mayLeave := by decide +kernel
  have f4 := hB.2.1 (e0 / 2)
  have hl := lv_entry ([.ref (q 1), .int (nI e0)]) (n := 2) (Nat.le_of_ble_eq_true rfl)
  rw [lg_entry_eq]
  generalize (lg_sl ([.ref (q 1), .int (nI e0)]) ++ List.replicate (2 - (lg_sl ([.ref (q 1), .int (nI e0)])).length) Slot.unset).toArray = ls at hl ⊢
  have hl : lv_has ls 2 [(0, .ref (q 1)), (1, .int (nI e0))] := hl
  refine lv_iload_n hx hb dX1_mayLeave_0 rfl (lv_at hl 1 rfl) ?_
  refine lv_iconst (v := nI 2) hx hb dX1_mayLeave_1 (by decide) ?_
  refine na_irem2 hx hb (by omega) dX1_mayLeave_2 ?_
  refine lv_iconst (v := nI 1) hx hb dX1_mayLeave_3 (by decide) ?_
  refine na_icmp_eq (tgt := 18) hx hb (by omega) (by omega) dX1_mayLeave_4 (by decide) (fun h_4 => ?_) (fun h_4 => ?_)
  · skip
    refine lv_iconst (v := nI 1) hx hb dX1_mayLeave_18 (by decide) ?_
    refine lv_goto (tgt := 23) hx hb dX1_mayLeave_19 (by decide) ?_
    exact W.zret (v := nI 1) hx hb hr (nar_b _ (by first | decide | omega | exact bN_le _)) (fun t ht hW => ⟨_, rfl, bN1 (by first | (simp [mvL]; done) | (simp [mvL]; omega)), ht⟩) (fun _ h => by cases h) dX1_mayLeave_23
  · skip
    refine lv_aload_n hx hb dX1_mayLeave_7 rfl (lv_at hl 0 rfl) ?_
    refine va_get (D := D) (v := .ref (q 6)) hx hb hts hin_X1 hown hX.1 hP 1 rfl rfl 4 (by decide) hf_21 (fun _ h9 => h9) rfl dX1_mayLeave_8 ?_
    refine lv_iload_n hx hb dX1_mayLeave_11 rfl (lv_at hl 1 rfl) ?_
    refine lv_iconst (v := nI 2) hx hb dX1_mayLeave_12 (by decide) ?_
    refine na_idiv2 hx hb (by omega) dX1_mayLeave_13 ?_
    refine na_zald hx hb hX.1 hP 6 1 rfl rfl (by omega) (by decide) dX1_mayLeave_14 ?_
    refine na_if_eq (tgt := 22) hx hb (by omega) dX1_mayLeave_15 (by decide) (fun h_15 => ?_) (fun h_15 => ?_)
    · skip
      refine lv_iconst (v := nI 0) hx hb dX1_mayLeave_22 (by decide) ?_
      exact W.zret (v := nI 0) hx hb hr (nar_b _ (by first | decide | omega | exact bN_le _)) (fun t ht hW => ⟨_, rfl, bN0 (by first | (simp [mvL]; done) | (simp [mvL]; omega)), ht⟩) (fun _ h => by cases h) dX1_mayLeave_23
    · skip
      refine lv_iconst (v := nI 1) hx hb dX1_mayLeave_18 (by decide) ?_
      refine lv_goto (tgt := 23) hx hb dX1_mayLeave_19 (by decide) ?_
      exact W.zret (v := nI 1) hx hb hr (nar_b _ (by first | decide | omega | exact bN_le _)) (fun t ht hW => ⟨_, rfl, bN1 (by first | (simp [mvL]; done) | (simp [mvL]; omega)), ht⟩) (fun _ h => by cases h) dX1_mayLeave_23

set_option maxHeartbeats 4000000 in
set_option maxRecDepth 100000 in
theorem k_X1_mayEnter (l : Launch) (D : va_G) (q : Nat → Nat) (k : Nat → ClassId) (r : Nat → Nat) (S Z : Nat → Nat → Nat) (e0 : Nat) (w0 : Nat) (h0 : Nat) (hB : Bd S) (he : e0 < 40) (hw : w0 ≤ 500) (hh : h0 < 24) : Met l yX1_mayEnter wsX1_mayEnter ({ frames := 0, cells := 0, slots := 0, locals := 0 } : Room) (va_Pc [.ref (q 1), .int (nI e0), .int (nI w0), .int (nI h0)] (rB D k (wC q k r S Z))) (vp_Si (fun r => r = nI (bN (mvE S w0 h0 e0)))) 0 0 (fun _ => False) := by
  refine Met.ofW (cc := cX1_mayEnter) (maxL := 5) (ret := (some .boolean)) (by decide) rfl ?_
  intro p e s m args below meth c s₁ B hml hv
  obtain ⟨rfl, hP, hX⟩ := hv
  have hx := B.exec
  have hb := B.bytes
  have hr := B.returns
  have hts := atoms_spec (ws := wsX1_mayEnter) B.pre
  have hown : s.vm.findClass RX1 = some m.cls := findClass_of_methodNamed B.named
  have hlocks := B.notSynchronized
  have hf_18 := hts (.fieldLink RX1 18 "FloorGraph$Floor" "widths" "[I") (by decide +kernel)
  have hf_21 := hts (.fieldLink RX1 21 "FloorGraph$Floor" "twoWay" "[Z") (by decide +kernel)
  have hf_25 := hts (.fieldLink RX1 25 "FloorGraph$Floor" "shut" "[Z") (by decide +kernel)
  have hf_28 := hts (.fieldLink RX1 28 "FloorGraph$Floor" "barredHours" "[I") (by decide +kernel)
  have hin_X1 : ∀ w ∈ u_ws RX1 TX1 14, w ∈ wsX1_mayEnter := by decide +kernel
  have f4 := hB.2.1 (e0 / 2)
  have hl := lv_entry ([.ref (q 1), .int (nI e0), .int (nI w0), .int (nI h0)]) (n := 5) (Nat.le_of_ble_eq_true rfl)
  rw [lg_entry_eq]
  generalize (lg_sl ([.ref (q 1), .int (nI e0), .int (nI w0), .int (nI h0)]) ++ List.replicate (5 - (lg_sl ([.ref (q 1), .int (nI e0), .int (nI w0), .int (nI h0)])).length) Slot.unset).toArray = ls at hl ⊢
  have hl : lv_has ls 5 [(0, .ref (q 1)), (1, .int (nI e0)), (2, .int (nI w0)), (3, .int (nI h0))] := hl
  refine lv_iload_n hx hb dX1_mayEnter_0 rfl (lv_at hl 1 rfl) ?_
  refine lv_iconst (v := nI 2) hx hb dX1_mayEnter_1 (by decide) ?_
  refine na_idiv2 hx hb (by omega) dX1_mayEnter_2 ?_
  refine lv_istore (lv' := [(4, .int (nI (e0 / 2))), (0, .ref (q 1)), (1, .int (nI e0)), (2, .int (nI w0)), (3, .int (nI h0))]) hx hb dX1_mayEnter_3 hl (by decide) rfl (fun ls hl => ?_)
  refine lv_aload_n hx hb dX1_mayEnter_5 rfl (lv_at hl 1 rfl) ?_
  refine va_get (D := D) (v := .ref (q 7)) hx hb hts hin_X1 hown hX.1 hP 1 rfl rfl 5 (by decide) hf_25 (fun _ h9 => h9) rfl dX1_mayEnter_6 ?_
  refine lv_iload hx hb dX1_mayEnter_9 (lv_at hl 0 rfl) ?_
  refine na_zald hx hb hX.1 hP 7 1 rfl rfl (by omega) (by decide) dX1_mayEnter_11 ?_
  refine na_if_ne (tgt := 60) hx hb (by omega) dX1_mayEnter_12 (by decide) (fun h_12 => ?_) (fun h_12 => ?_)
  · skip
    refine lv_iconst (v := nI 0) hx hb dX1_mayEnter_60 (by decide) ?_
    exact W.zret (v := nI 0) hx hb hr (nar_b _ (by first | decide | omega | exact bN_le _)) (fun t ht hW => ⟨_, rfl, bN0 (by first | (simp [mvE]; done) | (simp [mvE]; omega)), ht⟩) (fun _ h => by cases h) dX1_mayEnter_61
  · skip
    refine lv_aload_n hx hb dX1_mayEnter_15 rfl (lv_at hl 1 rfl) ?_
    refine va_get (D := D) (v := .ref (q 8)) hx hb hts hin_X1 hown hX.1 hP 1 rfl rfl 6 (by decide) hf_28 (fun _ h9 => h9) rfl dX1_mayEnter_16 ?_
    refine lv_iload hx hb dX1_mayEnter_19 (lv_at hl 0 rfl) ?_
    refine na_iald hx hb hX.1 hP 8 0 rfl rfl (by omega) (by decide) dX1_mayEnter_21 ?_
    refine lv_iload_n hx hb dX1_mayEnter_22 rfl (lv_at hl 4 rfl) ?_
    refine na_ishr hx hb (by omega) (by omega) dX1_mayEnter_23 ?_
    refine lv_iconst (v := nI 1) hx hb dX1_mayEnter_24 (by decide) ?_
    have f5 : S 6 (e0 / 2) / 2 ^ h0 ≤ S 6 (e0 / 2) := Nat.div_le_self _ _
    refine na_iand1 hx hb (by omega) dX1_mayEnter_25 ?_
    have f6 : S 6 (e0 / 2) / 2 ^ h0 % 2 < 2 := Nat.mod_lt _ (by decide)
    refine na_if_ne (tgt := 60) hx hb (by omega) dX1_mayEnter_26 (by decide) (fun h_26 => ?_) (fun h_26 => ?_)
    · skip
      refine lv_iconst (v := nI 0) hx hb dX1_mayEnter_60 (by decide) ?_
      exact W.zret (v := nI 0) hx hb hr (nar_b _ (by first | decide | omega | exact bN_le _)) (fun t ht hW => ⟨_, rfl, bN0 (by first | (simp [mvE]; done) | (simp [mvE]; omega)), ht⟩) (fun _ h => by cases h) dX1_mayEnter_61
    · skip
      refine lv_aload_n hx hb dX1_mayEnter_29 rfl (lv_at hl 1 rfl) ?_
      refine va_get (D := D) (v := .ref (q 5)) hx hb hts hin_X1 hown hX.1 hP 1 rfl rfl 3 (by decide) hf_18 (fun _ h9 => h9) rfl dX1_mayEnter_30 ?_
      refine lv_iload hx hb dX1_mayEnter_33 (lv_at hl 0 rfl) ?_
      refine na_iald hx hb hX.1 hP 5 0 rfl rfl (by omega) (by decide) dX1_mayEnter_35 ?_
      refine lv_iload_n hx hb dX1_mayEnter_36 rfl (lv_at hl 3 rfl) ?_
      refine na_icmp_lt (tgt := 60) hx hb (by omega) (by omega) dX1_mayEnter_37 (by decide) (fun h_37 => ?_) (fun h_37 => ?_)
      · skip
        refine lv_iconst (v := nI 0) hx hb dX1_mayEnter_60 (by decide) ?_
        exact W.zret (v := nI 0) hx hb hr (nar_b _ (by first | decide | omega | exact bN_le _)) (fun t ht hW => ⟨_, rfl, bN0 (by first | (simp [mvE]; done) | (simp [mvE]; omega)), ht⟩) (fun _ h => by cases h) dX1_mayEnter_61
      · skip
        refine lv_iload_n hx hb dX1_mayEnter_40 rfl (lv_at hl 2 rfl) ?_
        refine lv_iconst (v := nI 2) hx hb dX1_mayEnter_41 (by decide) ?_
        refine na_irem2 hx hb (by omega) dX1_mayEnter_42 ?_
        refine na_if_eq (tgt := 56) hx hb (by omega) dX1_mayEnter_43 (by decide) (fun h_43 => ?_) (fun h_43 => ?_)
        · skip
          refine lv_iconst (v := nI 1) hx hb dX1_mayEnter_56 (by decide) ?_
          refine lv_goto (tgt := 61) hx hb dX1_mayEnter_57 (by decide) ?_
          exact W.zret (v := nI 1) hx hb hr (nar_b _ (by first | decide | omega | exact bN_le _)) (fun t ht hW => ⟨_, rfl, bN1 (by first | (simp [mvE]; done) | (simp [mvE]; omega)), ht⟩) (fun _ h => by cases h) dX1_mayEnter_61
        · skip
          refine lv_aload_n hx hb dX1_mayEnter_46 rfl (lv_at hl 1 rfl) ?_
          refine va_get (D := D) (v := .ref (q 6)) hx hb hts hin_X1 hown hX.1 hP 1 rfl rfl 4 (by decide) hf_21 (fun _ h9 => h9) rfl dX1_mayEnter_47 ?_
          refine lv_iload hx hb dX1_mayEnter_50 (lv_at hl 0 rfl) ?_
          refine na_zald hx hb hX.1 hP 6 1 rfl rfl (by omega) (by decide) dX1_mayEnter_52 ?_
          refine na_if_eq (tgt := 60) hx hb (by omega) dX1_mayEnter_53 (by decide) (fun h_53 => ?_) (fun h_53 => ?_)
          · skip
            refine lv_iconst (v := nI 0) hx hb dX1_mayEnter_60 (by decide) ?_
            exact W.zret (v := nI 0) hx hb hr (nar_b _ (by first | decide | omega | exact bN_le _)) (fun t ht hW => ⟨_, rfl, bN0 (by first | (simp [mvE]; done) | (simp [mvE]; omega)), ht⟩) (fun _ h => by cases h) dX1_mayEnter_61
          · skip
            refine lv_iconst (v := nI 1) hx hb dX1_mayEnter_56 (by decide) ?_
            refine lv_goto (tgt := 61) hx hb dX1_mayEnter_57 (by decide) ?_
            exact W.zret (v := nI 1) hx hb hr (nar_b _ (by first | decide | omega | exact bN_le _)) (fun t ht hW => ⟨_, rfl, bN1 (by first | (simp [mvE]; done) | (simp [mvE]; omega)), ht⟩) (fun _ h => by cases h) dX1_mayEnter_61

set_option maxHeartbeats 4000000 in
set_option maxRecDepth 100000 in
theorem k_X1_barredAmong (l : Launch) (D : va_G) (q : Nat → Nat) (k : Nat → ClassId) (r : Nat → Nat) (S Z : Nat → Nat → Nat) (a0 : Nat) (b0 : Nat) (hB : Bd S) (ha : a0 ≤ b0) (hb0 : b0 ≤ 80) : Met l yX1_barredAmong wsX1_barredAmong ({ frames := 0, cells := 0, slots := 0, locals := 0 } : Room) (va_Pc [.ref (q 1), .int (nI a0), .int (nI b0)] (rB D k (wC q k r S Z))) (vp_Si (fun r => r = nI (sm (S 10) a0 (b0 - a0)))) 0 0 (fun _ => False) := by
  refine Met.ofW (cc := cX1_barredAmong) (maxL := 5) (ret := (some .int)) (by decide) rfl ?_
  intro p e s m args below meth c s₁ B hml hv
  obtain ⟨rfl, hP, hX⟩ := hv
  have hx := B.exec
  have hb := B.bytes
  have hr := B.returns
  have hts := atoms_spec (ws := wsX1_barredAmong) B.pre
  have hown : s.vm.findClass RX1 = some m.cls := findClass_of_methodNamed B.named
  have hlocks := B.notSynchronized
  have hf_40 := hts (.fieldLink RX1 40 "FloorGraph$Floor" "barred" "[Z") (by decide +kernel)
  have hin_X1 : ∀ w ∈ u_ws RX1 TX1 14, w ∈ wsX1_barredAmong := by decide +kernel
  have hl := lv_entry ([.ref (q 1), .int (nI a0), .int (nI b0)]) (n := 5) (Nat.le_of_ble_eq_true rfl)
  rw [lg_entry_eq]
  generalize (lg_sl ([.ref (q 1), .int (nI a0), .int (nI b0)]) ++ List.replicate (5 - (lg_sl ([.ref (q 1), .int (nI a0), .int (nI b0)])).length) Slot.unset).toArray = ls at hl ⊢
  have hl : lv_has ls 5 [(0, .ref (q 1)), (1, .int (nI a0)), (2, .int (nI b0))] := hl
  refine lv_iconst (v := nI 0) hx hb dX1_barredAmong_0 (by decide) ?_
  refine lv_istore_n (lv' := [(3, .int (nI 0)), (0, .ref (q 1)), (1, .int (nI a0)), (2, .int (nI b0))]) hx hb dX1_barredAmong_1 rfl hl (by decide) rfl (fun ls hl => ?_)
  refine lv_iload_n hx hb dX1_barredAmong_2 rfl (lv_at hl 2 rfl) ?_
  refine lv_istore (lv' := [(4, .int (nI a0)), (3, .int (nI 0)), (0, .ref (q 1)), (1, .int (nI a0)), (2, .int (nI b0))]) hx hb dX1_barredAmong_3 hl (by decide) rfl (fun ls hl => ?_)
  have L5 : ∀ (n5 : Nat) (i : Nat) (f : Nat), (b0 < i + n5) → (h1 : i ≤ b0) → (h2 : a0 ≤ i) → (h3 : f = sm (S 10) a0 (i - a0)) → ∀ (ls : Array Slot), lv_has ls 5 [(4, .int (nI i)), (3, .int (nI f)), (0, .ref (q 1)), (1, .int (nI a0)), (2, .int (nI b0))] → W p l e (headSpec wsX1_barredAmong ({ frames := 0, cells := 0, slots := 0, locals := 0 } : Room)).room s m [.ref (q 1), .int (nI a0), .int (nI b0)].toArray below meth c s.heap [] 0 0 (MQ below (vp_Si (fun r => r = nI (sm (S 10) a0 (b0 - a0)))) [.ref (q 1), .int (nI a0), .int (nI b0)].toArray s 0 0 (fun _ => False)) (F0 m 5 ls []) := by
    intro n5
    induction n5 with
    | zero =>
      intro i f hfuel5 h1 h2 h3 ls hl
      exact absurd hfuel5 (by omega)
    | succ n5 ih5 =>
      intro i f hfuel5 h1 h2 h3 ls hl
      have f1 := hB.2.2.1 i
      have f2 := sm_le (a := a0) (fun i => (hB.2.2.1 i).2) (i - a0)
      refine lv_iload hx hb dX1_barredAmong_5 (lv_at hl 0 rfl) ?_
      refine lv_iload_n hx hb dX1_barredAmong_7 rfl (lv_at hl 4 rfl) ?_
      refine na_icmp_ge (tgt := 30) hx hb (by omega) (by omega) dX1_barredAmong_8 (by decide) (fun h_8 => ?_) (fun h_8 => ?_)
      · skip
        refine lv_iload_n hx hb dX1_barredAmong_30 rfl (lv_at hl 1 rfl) ?_
        exact W.iret (v := nI f) hx hb hr (fun t ht hW => ⟨_, rfl, by rw [h3, show i = b0 by omega], ht⟩) (fun _ h => by cases h) dX1_barredAmong_31
      · skip
        refine lv_aload_n hx hb dX1_barredAmong_11 rfl (lv_at hl 2 rfl) ?_
        refine va_get (D := D) (v := .ref (q 12)) hx hb hts hin_X1 hown hX.1 hP 1 rfl rfl 11 (by decide) hf_40 (fun _ h9 => h9) rfl dX1_barredAmong_12 ?_
        refine lv_iload hx hb dX1_barredAmong_15 (lv_at hl 0 rfl) ?_
        refine na_zald hx hb hX.1 hP 12 1 rfl rfl (by omega) (by decide) dX1_barredAmong_17 ?_
        refine na_if_eq (tgt := 24) hx hb (by omega) dX1_barredAmong_18 (by decide) (fun h_18 => ?_) (fun h_18 => ?_)
        · skip
          refine lv_iinc (v := nI (i + 1)) (lv' := [(4, .int (nI (i + 1))), (3, .int (nI f)), (0, .ref (q 1)), (1, .int (nI a0)), (2, .int (nI b0))]) hx hb dX1_barredAmong_24 hl (k := 0) rfl (nI_add _ 1) (by decide) rfl (fun ls hl => ?_)
          refine lv_goto (tgt := 5) hx hb dX1_barredAmong_27 (by decide) ?_
          exact ih5 (i + 1) f (by omega) (by omega) (by omega) (by rw [sm_step h2]; omega) ls hl
        · skip
          refine lv_iinc (v := nI (f + 1)) (lv' := [(3, .int (nI (f + 1))), (4, .int (nI i)), (0, .ref (q 1)), (1, .int (nI a0)), (2, .int (nI b0))]) hx hb dX1_barredAmong_21 hl (k := 1) rfl (nI_add _ 1) (by decide) rfl (fun ls hl => ?_)
          refine lv_iinc (v := nI (i + 1)) (lv' := [(4, .int (nI (i + 1))), (3, .int (nI (f + 1))), (0, .ref (q 1)), (1, .int (nI a0)), (2, .int (nI b0))]) hx hb dX1_barredAmong_24 hl (k := 1) rfl (nI_add _ 1) (by decide) rfl (fun ls hl => ?_)
          refine lv_goto (tgt := 5) hx hb dX1_barredAmong_27 (by decide) ?_
          exact ih5 (i + 1) ((f + 1)) (by omega) (by omega) (by omega) (by rw [sm_step h2]; omega) ls hl
  exact L5 (b0 + 1) a0 0 (by omega) ha (by omega) (by rw [Nat.sub_self]; rfl) ls hl

set_option maxHeartbeats 4000000 in
set_option maxRecDepth 100000 in
theorem k_X1_shutPieces (l : Launch) (D : va_G) (q : Nat → Nat) (k : Nat → ClassId) (r : Nat → Nat) (S Z : Nat → Nat → Nat) (hB : Bd S) : Met l yX1_shutPieces wsX1_shutPieces ({ frames := 0, cells := 0, slots := 0, locals := 0 } : Room) (va_Pc [.ref (q 1)] (rB D k (wC q k r S Z))) (vp_Si (fun r => r = nI (sm (S 5) 0 (S 0 0)))) 0 0 (fun _ => False) := by
  refine Met.ofW (cc := cX1_shutPieces) (maxL := 3) (ret := (some .int)) (by decide) rfl ?_
  intro p e s m args below meth c s₁ B hml hv
  obtain ⟨rfl, hP, hX⟩ := hv
  have hx := B.exec
  have hb := B.bytes
  have hr := B.returns
  have hts := atoms_spec (ws := wsX1_shutPieces) B.pre
  have hown : s.vm.findClass RX1 = some m.cls := findClass_of_methodNamed B.named
  have hlocks := B.notSynchronized
  have hf_25 := hts (.fieldLink RX1 25 "FloorGraph$Floor" "shut" "[Z") (by decide +kernel)
  have hf_51 := hts (.fieldLink RX1 51 "FloorGraph$Floor" "pieces" "I") (by decide +kernel)
  have hin_X1 : ∀ w ∈ u_ws RX1 TX1 14, w ∈ wsX1_shutPieces := by decide +kernel
  have f0 := hB.1
  have hl := lv_entry ([.ref (q 1)]) (n := 3) (Nat.le_of_ble_eq_true rfl)
  rw [lg_entry_eq]
  generalize (lg_sl ([.ref (q 1)]) ++ List.replicate (3 - (lg_sl ([.ref (q 1)])).length) Slot.unset).toArray = ls at hl ⊢
  have hl : lv_has ls 3 [(0, .ref (q 1))] := hl
  refine lv_iconst (v := nI 0) hx hb dX1_shutPieces_0 (by decide) ?_
  refine lv_istore_n (lv' := [(1, .int (nI 0)), (0, .ref (q 1))]) hx hb dX1_shutPieces_1 rfl hl (by decide) rfl (fun ls hl => ?_)
  refine lv_iconst (v := nI 0) hx hb dX1_shutPieces_2 (by decide) ?_
  refine lv_istore_n (lv' := [(2, .int (nI 0)), (1, .int (nI 0)), (0, .ref (q 1))]) hx hb dX1_shutPieces_3 rfl hl (by decide) rfl (fun ls hl => ?_)
  have L4 : ∀ (n4 : Nat) (i : Nat) (f : Nat), (S 0 0 < i + n4) → (h1 : i ≤ S 0 0) → (h3 : f = sm (S 5) 0 i) → ∀ (ls : Array Slot), lv_has ls 3 [(2, .int (nI i)), (1, .int (nI f)), (0, .ref (q 1))] → W p l e (headSpec wsX1_shutPieces ({ frames := 0, cells := 0, slots := 0, locals := 0 } : Room)).room s m [.ref (q 1)].toArray below meth c s.heap [] 0 0 (MQ below (vp_Si (fun r => r = nI (sm (S 5) 0 (S 0 0)))) [.ref (q 1)].toArray s 0 0 (fun _ => False)) (F0 m 4 ls []) := by
    intro n4
    induction n4 with
    | zero =>
      intro i f hfuel4 h1 h3 ls hl
      exact absurd hfuel4 (by omega)
    | succ n4 ih4 =>
      intro i f hfuel4 h1 h3 ls hl
      have f1 := hB.2.1 i
      have f2 := sm_le (a := 0) (fun i => (hB.2.1 i).2.2.2.2.1) i
      refine lv_iload_n hx hb dX1_shutPieces_4 rfl (lv_at hl 0 rfl) ?_
      refine lv_aload_n hx hb dX1_shutPieces_5 rfl (lv_at hl 2 rfl) ?_
      refine va_get (D := D) (v := .int (nI (S 0 0))) hx hb hts hin_X1 hown hX.1 hP 1 rfl rfl 0 (by decide) hf_51 (fun _ h9 => h9) rfl dX1_shutPieces_6 ?_
      refine na_icmp_ge (tgt := 30) hx hb (by omega) (by omega) dX1_shutPieces_9 (by decide) (fun h_9 => ?_) (fun h_9 => ?_)
      · skip
        refine lv_iload_n hx hb dX1_shutPieces_30 rfl (lv_at hl 1 rfl) ?_
        exact W.iret (v := nI f) hx hb hr (fun t ht hW => ⟨_, rfl, by rw [h3, show i = S 0 0 by omega], ht⟩) (fun _ h => by cases h) dX1_shutPieces_31
      · skip
        refine lv_aload_n hx hb dX1_shutPieces_12 rfl (lv_at hl 2 rfl) ?_
        refine va_get (D := D) (v := .ref (q 7)) hx hb hts hin_X1 hown hX.1 hP 1 rfl rfl 5 (by decide) hf_25 (fun _ h9 => h9) rfl dX1_shutPieces_13 ?_
        refine lv_iload_n hx hb dX1_shutPieces_16 rfl (lv_at hl 0 rfl) ?_
        refine na_zald hx hb hX.1 hP 7 1 rfl rfl (by omega) (by decide) dX1_shutPieces_17 ?_
        refine na_if_eq (tgt := 24) hx hb (by omega) dX1_shutPieces_18 (by decide) (fun h_18 => ?_) (fun h_18 => ?_)
        · skip
          refine lv_iinc (v := nI (i + 1)) (lv' := [(2, .int (nI (i + 1))), (1, .int (nI f)), (0, .ref (q 1))]) hx hb dX1_shutPieces_24 hl (k := 0) rfl (nI_add _ 1) (by decide) rfl (fun ls hl => ?_)
          refine lv_goto (tgt := 4) hx hb dX1_shutPieces_27 (by decide) ?_
          exact ih4 (i + 1) f (by omega) (by omega) (by show _ = sm (S 5) 0 i + S 5 (0 + i); rw [Nat.zero_add]; omega) ls hl
        · skip
          refine lv_iinc (v := nI (f + 1)) (lv' := [(1, .int (nI (f + 1))), (2, .int (nI i)), (0, .ref (q 1))]) hx hb dX1_shutPieces_21 hl (k := 1) rfl (nI_add _ 1) (by decide) rfl (fun ls hl => ?_)
          refine lv_iinc (v := nI (i + 1)) (lv' := [(2, .int (nI (i + 1))), (1, .int (nI (f + 1))), (0, .ref (q 1))]) hx hb dX1_shutPieces_24 hl (k := 1) rfl (nI_add _ 1) (by decide) rfl (fun ls hl => ?_)
          refine lv_goto (tgt := 4) hx hb dX1_shutPieces_27 (by decide) ?_
          exact ih4 (i + 1) ((f + 1)) (by omega) (by omega) (by show _ = sm (S 5) 0 i + S 5 (0 + i); rw [Nat.zero_add]; omega) ls hl
  exact L4 (S 0 0 + 1) 0 0 (by omega) (by omega) rfl ls hl

set_option maxHeartbeats 4000000 in
set_option maxRecDepth 100000 in
theorem k_X1_hasPieceFor (l : Launch) (D : va_G) (q : Nat → Nat) (k : Nat → ClassId) (r : Nat → Nat) (S Z : Nat → Nat → Nat) (w0 : Nat) (hB : Bd S) (hw : w0 ≤ 500) : Met l yX1_hasPieceFor wsX1_hasPieceFor ({ frames := 0, cells := 0, slots := 0, locals := 0 } : Room) (va_Pc [.ref (q 1), .int (nI w0)] (rB D k (wC q k r S Z))) (vp_Si (fun r => r = nI (bN (anyB (fun j => decide (w0 ≤ S 3 j)) (S 0 0))))) 0 0 (fun _ => False) := by
  refine Met.ofW (cc := cX1_hasPieceFor) (maxL := 3) (ret := (some .boolean)) (by decide) rfl ?_
  intro p e s m args below meth c s₁ B hml hv
  obtain ⟨rfl, hP, hX⟩ := hv
  have hx := B.exec
  have hb := B.bytes
  have hr := B.returns
  have hts := atoms_spec (ws := wsX1_hasPieceFor) B.pre
  have hown : s.vm.findClass RX1 = some m.cls := findClass_of_methodNamed B.named
  have hlocks := B.notSynchronized
  have hf_18 := hts (.fieldLink RX1 18 "FloorGraph$Floor" "widths" "[I") (by decide +kernel)
  have hf_51 := hts (.fieldLink RX1 51 "FloorGraph$Floor" "pieces" "I") (by decide +kernel)
  have hin_X1 : ∀ w ∈ u_ws RX1 TX1 14, w ∈ wsX1_hasPieceFor := by decide +kernel
  have f0 := hB.1
  have hl := lv_entry ([.ref (q 1), .int (nI w0)]) (n := 3) (Nat.le_of_ble_eq_true rfl)
  rw [lg_entry_eq]
  generalize (lg_sl ([.ref (q 1), .int (nI w0)]) ++ List.replicate (3 - (lg_sl ([.ref (q 1), .int (nI w0)])).length) Slot.unset).toArray = ls at hl ⊢
  have hl : lv_has ls 3 [(0, .ref (q 1)), (1, .int (nI w0))] := hl
  refine lv_iconst (v := nI 0) hx hb dX1_hasPieceFor_0 (by decide) ?_
  refine lv_istore_n (lv' := [(2, .int (nI 0)), (0, .ref (q 1)), (1, .int (nI w0))]) hx hb dX1_hasPieceFor_1 rfl hl (by decide) rfl (fun ls hl => ?_)
  have L2 : ∀ (n2 : Nat) (i : Nat), (S 0 0 < i + n2) → (h1 : i ≤ S 0 0) → (h3 : anyB (fun j => decide (w0 ≤ S 3 j)) i = false) → ∀ (ls : Array Slot), lv_has ls 3 [(2, .int (nI i)), (0, .ref (q 1)), (1, .int (nI w0))] → W p l e (headSpec wsX1_hasPieceFor ({ frames := 0, cells := 0, slots := 0, locals := 0 } : Room)).room s m [.ref (q 1), .int (nI w0)].toArray below meth c s.heap [] 0 0 (MQ below (vp_Si (fun r => r = nI (bN (anyB (fun j => decide (w0 ≤ S 3 j)) (S 0 0))))) [.ref (q 1), .int (nI w0)].toArray s 0 0 (fun _ => False)) (F0 m 2 ls []) := by
    intro n2
    induction n2 with
    | zero =>
      intro i hfuel2 h1 h3 ls hl
      exact absurd hfuel2 (by omega)
    | succ n2 ih2 =>
      intro i hfuel2 h1 h3 ls hl
      have f1 := hB.2.1 i
      refine lv_iload_n hx hb dX1_hasPieceFor_2 rfl (lv_at hl 0 rfl) ?_
      refine lv_aload_n hx hb dX1_hasPieceFor_3 rfl (lv_at hl 1 rfl) ?_
      refine va_get (D := D) (v := .int (nI (S 0 0))) hx hb hts hin_X1 hown hX.1 hP 1 rfl rfl 0 (by decide) hf_51 (fun _ h9 => h9) rfl dX1_hasPieceFor_4 ?_
      refine na_icmp_ge (tgt := 28) hx hb (by omega) (by omega) dX1_hasPieceFor_7 (by decide) (fun h_7 => ?_) (fun h_7 => ?_)
      · skip
        refine lv_iconst (v := nI 0) hx hb dX1_hasPieceFor_28 (by decide) ?_
        exact W.zret (v := nI 0) hx hb hr (nar_b _ (by first | decide | omega | exact bN_le _)) (fun t ht hW => ⟨_, rfl, bN0 (by rw [← show i = S 0 0 by omega]; exact h3), ht⟩) (fun _ h => by cases h) dX1_hasPieceFor_29
      · skip
        refine lv_aload_n hx hb dX1_hasPieceFor_10 rfl (lv_at hl 1 rfl) ?_
        refine va_get (D := D) (v := .ref (q 5)) hx hb hts hin_X1 hown hX.1 hP 1 rfl rfl 3 (by decide) hf_18 (fun _ h9 => h9) rfl dX1_hasPieceFor_11 ?_
        refine lv_iload_n hx hb dX1_hasPieceFor_14 rfl (lv_at hl 0 rfl) ?_
        refine na_iald hx hb hX.1 hP 5 0 rfl rfl (by omega) (by decide) dX1_hasPieceFor_15 ?_
        refine lv_iload_n hx hb dX1_hasPieceFor_16 rfl (lv_at hl 2 rfl) ?_
        refine na_icmp_lt (tgt := 22) hx hb (by omega) (by omega) dX1_hasPieceFor_17 (by decide) (fun h_17 => ?_) (fun h_17 => ?_)
        · skip
          refine lv_iinc (v := nI (i + 1)) (lv' := [(2, .int (nI (i + 1))), (0, .ref (q 1)), (1, .int (nI w0))]) hx hb dX1_hasPieceFor_22 hl (k := 0) rfl (nI_add _ 1) (by decide) rfl (fun ls hl => ?_)
          refine lv_goto (tgt := 2) hx hb dX1_hasPieceFor_25 (by decide) ?_
          exact ih2 (i + 1) (by omega) (by omega) (anyB_s h3 (by simp; omega)) ls hl
        · skip
          refine lv_iconst (v := nI 1) hx hb dX1_hasPieceFor_20 (by decide) ?_
          exact W.zret (v := nI 1) hx hb hr (nar_b _ (by first | decide | omega | exact bN_le _)) (fun t ht hW => ⟨_, rfl, bN1 (anyB_t (i := i) (by simp; omega) (by omega)), ht⟩) (fun _ h => by cases h) dX1_hasPieceFor_21
  exact L2 (S 0 0 + 1) 0 (by omega) (by omega) rfl ls hl
end
section
set_option maxHeartbeats 4000000 in
set_option maxRecDepth 100000 in
theorem k_X0_secondAt (l : Launch) (D : va_G) (q : Nat → Nat) (k : Nat → ClassId) (r : Nat → Nat) (S Z : Nat → Nat → Nat) (p0 : Nat) (hB : Bd S) (hZ1 : ∀ e, Z 1 e ≤ 1000000) (hZ0 : ∀ p, Z 0 p ≤ 1) (hp : p0 < S 0 1) : Met l yX0_secondAt wsX0_secondAt ({ frames := 0, cells := 0, slots := 0, locals := 0 } : Room) (va_Pc [.ref (q 2), .ref (q 1), .int (nI p0)] (rB D k (wC q k r S Z))) (vp_Si (fun r => r = nI (sAt S (oZ Z) (Z 1) p0))) 0 0 (fun _ => False) := by
  refine Met.ofW (cc := cX0_secondAt) (maxL := 4) (ret := (some .int)) (by decide) rfl ?_
  intro p e s m args below meth c s₁ B hml hv
  obtain ⟨rfl, hP, hX⟩ := hv
  have hx := B.exec
  have hb := B.bytes
  have hr := B.returns
  have hts := atoms_spec (ws := wsX0_secondAt) B.pre
  have hown : s.vm.findClass RX0 = some m.cls := findClass_of_methodNamed B.named
  have hlocks := B.notSynchronized
  have hf_9 := hts (.fieldLink RX0 9 "FloorGraph$Drive" "open" "[Z") (by decide +kernel)
  have hf_15 := hts (.fieldLink RX0 15 "FloorGraph$Drive" "reached" "[I") (by decide +kernel)
  have hf_57 : (Cond.fieldLinkNest "FloorGraph$Drive" 57 "FloorGraph$Floor" "starts" "[I" "FloorGraph").before _ s = true := va_Nw.use (A := [.ref (q 2), .ref (q 1), .int (nI p0)].toArray) rfl (hX.2.1 ("FloorGraph$Drive", 57, "FloorGraph$Floor", "starts", "[I", "FloorGraph") (by decide +kernel))
  have hf_60 : (Cond.fieldLinkNest "FloorGraph$Drive" 60 "FloorGraph$Floor" "turnSeconds" "[I" "FloorGraph").before _ s = true := va_Nw.use (A := [.ref (q 2), .ref (q 1), .int (nI p0)].toArray) rfl (hX.2.1 ("FloorGraph$Drive", 60, "FloorGraph$Floor", "turnSeconds", "[I", "FloorGraph") (by decide +kernel))
  have hin_X0 : ∀ w ∈ u_ws RX0 TX0 3, w ∈ wsX0_secondAt := by decide +kernel
  have hin_X1 : ∀ w ∈ u_ws RX1 TX1 14, w ∈ wsX0_secondAt := by decide +kernel
  have f0 := hB.1
  have f7 := hB.2.2.2.1 p0 hp
  have f9 := hB.2.2.1 p0
  have fr := hZ1 (S 7 p0)
  have fo := hZ0 p0
  have hl := lv_entry ([.ref (q 2), .ref (q 1), .int (nI p0)]) (n := 4) (Nat.le_of_ble_eq_true rfl)
  rw [lg_entry_eq]
  generalize (lg_sl ([.ref (q 2), .ref (q 1), .int (nI p0)]) ++ List.replicate (4 - (lg_sl ([.ref (q 2), .ref (q 1), .int (nI p0)])).length) Slot.unset).toArray = ls at hl ⊢
  have hl : lv_has ls 4 [(0, .ref (q 2)), (1, .ref (q 1)), (2, .int (nI p0))] := hl
  refine lv_aload_n hx hb dX0_secondAt_0 rfl (lv_at hl 0 rfl) ?_
  refine va_get (D := D) (v := .ref (q 16)) hx hb hts hin_X0 hown hX.1 hP 2 rfl rfl 1 (by decide) hf_15 (fun _ h9 => h9) rfl dX0_secondAt_1 ?_
  refine lv_aload_n hx hb dX0_secondAt_4 rfl (lv_at hl 1 rfl) ?_
  refine va_getN (D := D) (v := .ref (q 9)) hx hb hts hin_X1 hown hX.1 hP 1 rfl rfl 8 (by decide) hf_57 (fun _ h9 => h9) rfl dX0_secondAt_5 ?_
  refine lv_iload_n hx hb dX0_secondAt_8 rfl (lv_at hl 2 rfl) ?_
  refine na_iald hx hb hX.1 hP 9 0 rfl rfl (by omega) (by decide) dX0_secondAt_9 ?_
  refine na_iald hx hb hX.1 hP 16 0 rfl rfl (by omega) (by decide) dX0_secondAt_10 ?_
  refine lv_istore_n (lv' := [(3, .int (nI (Z 1 (S 7 p0)))), (0, .ref (q 2)), (1, .ref (q 1)), (2, .int (nI p0))]) hx hb dX0_secondAt_11 rfl hl (by decide) rfl (fun ls hl => ?_)
  refine lv_aload_n hx hb dX0_secondAt_12 rfl (lv_at hl 1 rfl) ?_
  refine va_get (D := D) (v := .ref (q 15)) hx hb hts hin_X0 hown hX.1 hP 2 rfl rfl 0 (by decide) hf_9 (fun _ h9 => h9) rfl dX0_secondAt_13 ?_
  refine lv_iload_n hx hb dX0_secondAt_16 rfl (lv_at hl 3 rfl) ?_
  refine na_zald hx hb hX.1 hP 15 1 rfl rfl (by omega) (by decide) dX0_secondAt_17 ?_
  refine na_if_eq (tgt := 27) hx hb (by omega) dX0_secondAt_18 (by decide) (fun h_18 => ?_) (fun h_18 => ?_)
  · skip
    refine lv_ldc (v := nI 1000000) hx hb hown (hts (.constant RX0 38 (1000000)) (by decide +kernel)) dX0_secondAt_27 ?_
    exact W.iret (v := nI 1000000) hx hb hr (fun t ht hW => ⟨_, rfl, congrArg nI (by unfold sAt; split <;> rename_i hh <;> simp [oZ] at hh <;> omega), ht⟩) (fun _ h => by cases h) dX0_secondAt_29
  · skip
    refine lv_iload_n hx hb dX0_secondAt_21 rfl (lv_at hl 0 rfl) ?_
    refine lv_ldc (v := nI 1000000) hx hb hown (hts (.constant RX0 38 (1000000)) (by decide +kernel)) dX0_secondAt_22 ?_
    refine na_icmp_ne (tgt := 30) hx hb (by omega) (by omega) dX0_secondAt_24 (by decide) (fun h_24 => ?_) (fun h_24 => ?_)
    · skip
      refine lv_iload_n hx hb dX0_secondAt_30 rfl (lv_at hl 0 rfl) ?_
      refine lv_aload_n hx hb dX0_secondAt_31 rfl (lv_at hl 2 rfl) ?_
      refine va_getN (D := D) (v := .ref (q 11)) hx hb hts hin_X1 hown hX.1 hP 1 rfl rfl 10 (by decide) hf_60 (fun _ h9 => h9) rfl dX0_secondAt_32 ?_
      refine lv_iload_n hx hb dX0_secondAt_35 rfl (lv_at hl 3 rfl) ?_
      refine na_iald hx hb hX.1 hP 11 0 rfl rfl (by omega) (by decide) dX0_secondAt_36 ?_
      refine na_iadd hx hb dX0_secondAt_37 ?_
      exact W.iret (v := nI ((Z 1 (S 7 p0)) + (S 9 p0))) hx hb hr (fun t ht hW => ⟨_, rfl, congrArg nI (by unfold sAt; split <;> rename_i hh <;> simp [oZ] at hh <;> omega), ht⟩) (fun _ h => by cases h) dX0_secondAt_38
    · skip
      refine lv_ldc (v := nI 1000000) hx hb hown (hts (.constant RX0 38 (1000000)) (by decide +kernel)) dX0_secondAt_27 ?_
      exact W.iret (v := nI 1000000) hx hb hr (fun t ht hW => ⟨_, rfl, congrArg nI (by unfold sAt; split <;> rename_i hh <;> simp [oZ] at hh <;> omega), ht⟩) (fun _ h => by cases h) dX0_secondAt_29

set_option maxHeartbeats 4000000 in
set_option maxRecDepth 100000 in
theorem k_X0_secondBehind (l : Launch) (D : va_G) (q : Nat → Nat) (k : Nat → ClassId) (r : Nat → Nat) (S Z : Nat → Nat → Nat) (p0 : Nat) (hB : Bd S) (hZ1 : ∀ e, Z 1 e ≤ 1000000) (hZ0 : ∀ p, Z 0 p ≤ 1) (hp : p0 < S 0 1) : Met l yX0_secondBehind wsX0_secondBehind ({ frames := 1, cells := 0, slots := 0, locals := 23 } : Room) (va_Pc [.ref (q 2), .ref (q 1), .int (nI p0)] (rB D k (wC q k r S Z))) (vp_Si (fun r => r = nI (sBh S (oZ Z) (Z 1) p0))) 0 0 (fun _ => False) := by
  refine Met.ofW (cc := cX0_secondBehind) (maxL := 4) (ret := (some .int)) (by decide) rfl ?_
  intro p e s m args below meth c s₁ B hml hv
  obtain ⟨rfl, hP, hX⟩ := hv
  have hx := B.exec
  have hb := B.bytes
  have hr := B.returns
  have hts := atoms_spec (ws := wsX0_secondBehind) B.pre
  have hown : s.vm.findClass RX0 = some m.cls := findClass_of_methodNamed B.named
  have hlocks := B.notSynchronized
  have hf_31 : (Cond.fieldLinkNest "FloorGraph$Drive" 31 "FloorGraph$Floor" "goals" "[I" "FloorGraph").before _ s = true := va_Nw.use (A := [.ref (q 2), .ref (q 1), .int (nI p0)].toArray) rfl (hX.2.1 ("FloorGraph$Drive", 31, "FloorGraph$Floor", "goals", "[I", "FloorGraph") (by decide +kernel))
  have hf_66 : (Cond.fieldLinkNest "FloorGraph$Drive" 66 "FloorGraph$Floor" "lengths" "[I" "FloorGraph").before _ s = true := va_Nw.use (A := [.ref (q 2), .ref (q 1), .int (nI p0)].toArray) rfl (hX.2.1 ("FloorGraph$Drive", 66, "FloorGraph$Floor", "lengths", "[I", "FloorGraph") (by decide +kernel))
  have hin_X1 : ∀ w ∈ u_ws RX1 TX1 14, w ∈ wsX0_secondBehind := by decide +kernel
  have f0 := hB.1
  have f7 := hB.2.2.2.1 p0 hp
  have fs := sAt_le (fun p => (hB.2.2.1 p).1) hZ1 (o := oZ Z) p0
  have f2 := hB.2.1 (S 8 p0 / 2)
  have hl := lv_entry ([.ref (q 2), .ref (q 1), .int (nI p0)]) (n := 4) (Nat.le_of_ble_eq_true rfl)
  rw [lg_entry_eq]
  generalize (lg_sl ([.ref (q 2), .ref (q 1), .int (nI p0)]) ++ List.replicate (4 - (lg_sl ([.ref (q 2), .ref (q 1), .int (nI p0)])).length) Slot.unset).toArray = ls at hl ⊢
  have hl : lv_has ls 4 [(0, .ref (q 2)), (1, .ref (q 1)), (2, .int (nI p0))] := hl
  refine lv_aload_n hx hb dX0_secondBehind_0 rfl (lv_at hl 0 rfl) ?_
  refine lv_aload_n hx hb dX0_secondBehind_1 rfl (lv_at hl 1 rfl) ?_
  refine lv_iload_n hx hb dX0_secondBehind_2 rfl (lv_at hl 2 rfl) ?_
  refine rd_V (As := [.ref (q 1), .int (nI p0)]) (rest := []) ⟨hx, hb, hml, hown, hts⟩ (k_X0_secondAt l D q k r S Z p0 hB hZ1 hZ0 hp) (cwV 2 hts gX0_secondBehind_X0_secondAt rfl rfl rfl (by decide +kernel) ⟨by decide, by decide⟩) hX hP (q0 := 2) rfl rfl rfl hl.1 rfl (Nat.le_of_ble_eq_true rfl) dX0_secondBehind_3 ⟨Nat.zero_le _, Nat.zero_le _⟩ ?_
  refine lv_istore_n (lv' := [(3, .int (nI (sAt S (oZ Z) (Z 1) p0))), (0, .ref (q 2)), (1, .ref (q 1)), (2, .int (nI p0))]) hx hb dX0_secondBehind_6 rfl hl (by decide) rfl (fun ls hl => ?_)
  refine lv_iload_n hx hb dX0_secondBehind_7 rfl (lv_at hl 0 rfl) ?_
  refine lv_ldc (v := nI 1000000) hx hb hown (hts (.constant RX0 38 (1000000)) (by decide +kernel)) dX0_secondBehind_8 ?_
  refine na_icmp_ne (tgt := 16) hx hb (by omega) (by omega) dX0_secondBehind_10 (by decide) (fun h_10 => ?_) (fun h_10 => ?_)
  · skip
    refine lv_iload_n hx hb dX0_secondBehind_16 rfl (lv_at hl 0 rfl) ?_
    refine lv_aload_n hx hb dX0_secondBehind_17 rfl (lv_at hl 2 rfl) ?_
    refine va_getN (D := D) (v := .ref (q 4)) hx hb hts hin_X1 hown hX.1 hP 1 rfl rfl 2 (by decide) hf_66 (fun _ h9 => h9) rfl dX0_secondBehind_18 ?_
    refine lv_aload_n hx hb dX0_secondBehind_21 rfl (lv_at hl 2 rfl) ?_
    refine va_getN (D := D) (v := .ref (q 10)) hx hb hts hin_X1 hown hX.1 hP 1 rfl rfl 9 (by decide) hf_31 (fun _ h9 => h9) rfl dX0_secondBehind_22 ?_
    refine lv_iload_n hx hb dX0_secondBehind_25 rfl (lv_at hl 3 rfl) ?_
    refine na_iald hx hb hX.1 hP 10 0 rfl rfl (by omega) (by decide) dX0_secondBehind_26 ?_
    refine lv_iconst (v := nI 2) hx hb dX0_secondBehind_27 (by decide) ?_
    refine na_idiv2 hx hb (by omega) dX0_secondBehind_28 ?_
    refine na_iald hx hb hX.1 hP 4 0 rfl rfl (by omega) (by decide) dX0_secondBehind_29 ?_
    refine na_iadd hx hb dX0_secondBehind_30 ?_
    exact W.iret (v := nI ((sAt S (oZ Z) (Z 1) p0) + (S 2 ((S 8 p0) / 2)))) hx hb hr (fun t ht hW => ⟨_, rfl, congrArg nI (by unfold sBh; split <;> omega), ht⟩) (fun _ h => by cases h) dX0_secondBehind_31
  · skip
    refine lv_ldc (v := nI 1000000) hx hb hown (hts (.constant RX0 38 (1000000)) (by decide +kernel)) dX0_secondBehind_13 ?_
    exact W.iret (v := nI 1000000) hx hb hr (fun t ht hW => ⟨_, rfl, congrArg nI (by unfold sBh; split <;> omega), ht⟩) (fun _ h => by cases h) dX0_secondBehind_15

set_option maxHeartbeats 4000000 in
set_option maxRecDepth 100000 in
theorem k_X0_lastPassage (l : Launch) (D : va_G) (q : Nat → Nat) (k : Nat → ClassId) (r : Nat → Nat) (S Z : Nat → Nat → Nat) (t0 : Nat) (hB : Bd S) (hZ1 : ∀ e, Z 1 e ≤ 1000000) (hZ0 : ∀ p, Z 0 p ≤ 1) (ht : t0 < 20) : Met l yX0_lastPassage wsX0_lastPassage ({ frames := 1, cells := 0, slots := 0, locals := 23 } : Room) (va_Pc [.ref (q 2), .ref (q 1), .int (nI t0)] (rB D k (wC q k r S Z))) (vp_Si (fun r => r = pI (lpB S (oZ Z) (Z 1) t0 (S 0 1)).1)) 0 0 (fun _ => False) := by
  refine Met.ofW (cc := cX0_lastPassage) (maxL := 7) (ret := (some .int)) (by decide) rfl ?_
  intro p e s m args below meth c s₁ B hml hv
  obtain ⟨rfl, hP, hX⟩ := hv
  have hx := B.exec
  have hb := B.bytes
  have hr := B.returns
  have hts := atoms_spec (ws := wsX0_lastPassage) B.pre
  have hown : s.vm.findClass RX0 = some m.cls := findClass_of_methodNamed B.named
  have hlocks := B.notSynchronized
  have hf_22 : (Cond.fieldLinkNest "FloorGraph$Drive" 22 "FloorGraph$Floor" "passages" "I" "FloorGraph").before _ s = true := va_Nw.use (A := [.ref (q 2), .ref (q 1), .int (nI t0)].toArray) rfl (hX.2.1 ("FloorGraph$Drive", 22, "FloorGraph$Floor", "passages", "I", "FloorGraph") (by decide +kernel))
  have hf_31 : (Cond.fieldLinkNest "FloorGraph$Drive" 31 "FloorGraph$Floor" "goals" "[I" "FloorGraph").before _ s = true := va_Nw.use (A := [.ref (q 2), .ref (q 1), .int (nI t0)].toArray) rfl (hX.2.1 ("FloorGraph$Drive", 31, "FloorGraph$Floor", "goals", "[I", "FloorGraph") (by decide +kernel))
  have hin_X1 : ∀ w ∈ u_ws RX1 TX1 14, w ∈ wsX0_lastPassage := by decide +kernel
  have f0 := hB.1
  have hl := lv_entry ([.ref (q 2), .ref (q 1), .int (nI t0)]) (n := 7) (Nat.le_of_ble_eq_true rfl)
  rw [lg_entry_eq]
  generalize (lg_sl ([.ref (q 2), .ref (q 1), .int (nI t0)]) ++ List.replicate (7 - (lg_sl ([.ref (q 2), .ref (q 1), .int (nI t0)])).length) Slot.unset).toArray = ls at hl ⊢
  have hl : lv_has ls 7 [(0, .ref (q 2)), (1, .ref (q 1)), (2, .int (nI t0))] := hl
  refine lv_iconst (v := pI 0) hx hb dX0_lastPassage_0 (by decide) ?_
  refine lv_istore_n (lv' := [(3, .int (pI 0)), (0, .ref (q 2)), (1, .ref (q 1)), (2, .int (nI t0))]) hx hb dX0_lastPassage_1 rfl hl (by decide) rfl (fun ls hl => ?_)
  refine lv_ldc (v := nI 1000000) hx hb hown (hts (.constant RX0 38 (1000000)) (by decide +kernel)) dX0_lastPassage_2 ?_
  refine lv_istore (lv' := [(4, .int (nI 1000000)), (3, .int (pI 0)), (0, .ref (q 2)), (1, .ref (q 1)), (2, .int (nI t0))]) hx hb dX0_lastPassage_4 hl (by decide) rfl (fun ls hl => ?_)
  refine lv_iconst (v := nI 0) hx hb dX0_lastPassage_6 (by decide) ?_
  refine lv_istore (lv' := [(5, .int (nI 0)), (4, .int (nI 1000000)), (3, .int (pI 0)), (0, .ref (q 2)), (1, .ref (q 1)), (2, .int (nI t0))]) hx hb dX0_lastPassage_7 hl (by decide) rfl (fun ls hl => ?_)
  have L9 : ∀ (n9 : Nat) (i : Nat) (b : Nat) (x : Nat), (S 0 1 < i + n9) → (h1 : i ≤ S 0 1) → (h3 : lpB S (oZ Z) (Z 1) t0 i = (b, x)) → ∀ (ls : Array Slot), lv_has ls 7 [(5, .int (nI i)), (4, .int (nI x)), (3, .int (pI b)), (0, .ref (q 2)), (1, .ref (q 1)), (2, .int (nI t0))] → W p l e (headSpec wsX0_lastPassage ({ frames := 1, cells := 0, slots := 0, locals := 23 } : Room)).room s m [.ref (q 2), .ref (q 1), .int (nI t0)].toArray below meth c s.heap [] 0 0 (MQ below (vp_Si (fun r => r = pI (lpB S (oZ Z) (Z 1) t0 (S 0 1)).1)) [.ref (q 2), .ref (q 1), .int (nI t0)].toArray s 0 0 (fun _ => False)) (F0 m 9 ls []) := by
    intro n9
    induction n9 with
    | zero =>
      intro i b x hfuel9 h1 h3 ls hl
      exact absurd hfuel9 (by omega)
    | succ n9 ih9 =>
      intro i b x hfuel9 h1 h3 ls hl
      have f3 := lpB_ok (S := S) (o := oZ Z) (r := Z 1) (t := t0) i
      rw [h3] at f3
      dsimp only at f3
      refine lv_iload hx hb dX0_lastPassage_9 (lv_at hl 0 rfl) ?_
      refine lv_aload_n hx hb dX0_lastPassage_11 rfl (lv_at hl 4 rfl) ?_
      refine va_getN (D := D) (v := .int (nI (S 0 1))) hx hb hts hin_X1 hown hX.1 hP 1 rfl rfl 7 (by decide) hf_22 (fun _ h9 => h9) rfl dX0_lastPassage_12 ?_
      refine na_icmp_ge (tgt := 60) hx hb (by omega) (by omega) dX0_lastPassage_15 (by decide) (fun h_15 => ?_) (fun h_15 => ?_)
      · skip
        refine lv_iload_n hx hb dX0_lastPassage_60 rfl (lv_at hl 2 rfl) ?_
        exact W.iret (v := pI b) hx hb hr (fun t ht hW => ⟨_, rfl, by rw [← show i = S 0 1 by omega, h3], ht⟩) (fun _ h => by cases h) dX0_lastPassage_61
      · skip
        have f7 := hB.2.2.2.1 i h_15
        have fs := sAt_le (fun p => (hB.2.2.1 p).1) hZ1 (o := oZ Z) i
        refine lv_aload_n hx hb dX0_lastPassage_18 rfl (lv_at hl 4 rfl) ?_
        refine va_getN (D := D) (v := .ref (q 10)) hx hb hts hin_X1 hown hX.1 hP 1 rfl rfl 9 (by decide) hf_31 (fun _ h9 => h9) rfl dX0_lastPassage_19 ?_
        refine lv_iload hx hb dX0_lastPassage_22 (lv_at hl 0 rfl) ?_
        refine na_iald hx hb hX.1 hP 10 0 rfl rfl (by omega) (by decide) dX0_lastPassage_24 ?_
        refine lv_iconst (v := nI 2) hx hb dX0_lastPassage_25 (by decide) ?_
        refine na_idiv2 hx hb (by omega) dX0_lastPassage_26 ?_
        refine lv_iload_n hx hb dX0_lastPassage_27 rfl (lv_at hl 5 rfl) ?_
        refine na_icmp_ne (tgt := 54) hx hb (by omega) (by omega) dX0_lastPassage_28 (by decide) (fun h_28 => ?_) (fun h_28 => ?_)
        · skip
          refine lv_iinc (v := nI (i + 1)) (lv' := [(5, .int (nI (i + 1))), (4, .int (nI x)), (3, .int (pI b)), (0, .ref (q 2)), (1, .ref (q 1)), (2, .int (nI t0))]) hx hb dX0_lastPassage_54 hl (k := 0) rfl (nI_add _ 1) (by decide) rfl (fun ls hl => ?_)
          refine lv_goto (tgt := 9) hx hb dX0_lastPassage_57 (by decide) ?_
          exact ih9 (i + 1) b x (by omega) (by omega) (by first | exact lpB_y h3 h_28 h_44 | exact lpB_n h3 (by omega)) ls hl
        · skip
          refine lv_aload_n hx hb dX0_lastPassage_31 rfl (lv_at hl 3 rfl) ?_
          refine lv_aload_n hx hb dX0_lastPassage_32 rfl (lv_at hl 4 rfl) ?_
          refine lv_iload hx hb dX0_lastPassage_33 (lv_at hl 0 rfl) ?_
          refine rd_V (As := [.ref (q 1), .int (nI i)]) (rest := []) ⟨hx, hb, hml, hown, hts⟩ (k_X0_secondAt l D q k r S Z i hB hZ1 hZ0 h_15) (cwV 2 hts gX0_lastPassage_X0_secondAt rfl rfl rfl (by decide +kernel) ⟨by decide, by decide⟩) hX hP (q0 := 2) rfl rfl rfl hl.1 rfl (Nat.le_of_ble_eq_true rfl) dX0_lastPassage_35 ⟨Nat.zero_le _, Nat.zero_le _⟩ ?_
          refine lv_istore (lv' := [(6, .int (nI (sAt S (oZ Z) (Z 1) i))), (5, .int (nI i)), (4, .int (nI x)), (3, .int (pI b)), (0, .ref (q 2)), (1, .ref (q 1)), (2, .int (nI t0))]) hx hb dX0_lastPassage_38 hl (by decide) rfl (fun ls hl => ?_)
          refine lv_iload hx hb dX0_lastPassage_40 (lv_at hl 0 rfl) ?_
          refine lv_iload hx hb dX0_lastPassage_42 (lv_at hl 2 rfl) ?_
          refine na_icmp_ge (tgt := 54) hx hb (by omega) (by omega) dX0_lastPassage_44 (by decide) (fun h_44 => ?_) (fun h_44 => ?_)
          · skip
            refine lv_iinc (v := nI (i + 1)) (lv' := [(5, .int (nI (i + 1))), (6, .int (nI (sAt S (oZ Z) (Z 1) i))), (4, .int (nI x)), (3, .int (pI b)), (0, .ref (q 2)), (1, .ref (q 1)), (2, .int (nI t0))]) hx hb dX0_lastPassage_54 hl (k := 1) rfl (nI_add _ 1) (by decide) rfl (fun ls hl => ?_)
            refine lv_goto (tgt := 9) hx hb dX0_lastPassage_57 (by decide) ?_
            exact ih9 (i + 1) b x (by omega) (by omega) (by first | exact lpB_y h3 h_28 h_44 | exact lpB_n h3 (by omega)) ls (lv_sub hl [0, 2, 3, 4, 5, 6] rfl)
          · skip
            refine lv_iload hx hb dX0_lastPassage_47 (lv_at hl 1 rfl) ?_
            refine na_as (y := pI (i + 1)) (pI_s i) ?_
            refine lv_istore_n (lv' := [(3, .int (pI (i + 1))), (6, .int (nI (sAt S (oZ Z) (Z 1) i))), (5, .int (nI i)), (4, .int (nI x)), (0, .ref (q 2)), (1, .ref (q 1)), (2, .int (nI t0))]) hx hb dX0_lastPassage_49 rfl hl (by decide) rfl (fun ls hl => ?_)
            refine lv_iload hx hb dX0_lastPassage_50 (lv_at hl 1 rfl) ?_
            refine lv_istore (lv' := [(4, .int (nI (sAt S (oZ Z) (Z 1) i))), (3, .int (pI (i + 1))), (6, .int (nI (sAt S (oZ Z) (Z 1) i))), (5, .int (nI i)), (0, .ref (q 2)), (1, .ref (q 1)), (2, .int (nI t0))]) hx hb dX0_lastPassage_52 hl (by decide) rfl (fun ls hl => ?_)
            refine lv_iinc (v := nI (i + 1)) (lv' := [(5, .int (nI (i + 1))), (4, .int (nI (sAt S (oZ Z) (Z 1) i))), (3, .int (pI (i + 1))), (6, .int (nI (sAt S (oZ Z) (Z 1) i))), (0, .ref (q 2)), (1, .ref (q 1)), (2, .int (nI t0))]) hx hb dX0_lastPassage_54 hl (k := 3) rfl (nI_add _ 1) (by decide) rfl (fun ls hl => ?_)
            refine lv_goto (tgt := 9) hx hb dX0_lastPassage_57 (by decide) ?_
            exact ih9 (i + 1) ((i + 1)) ((sAt S (oZ Z) (Z 1) i)) (by omega) (by omega) (by first | exact lpB_y h3 h_28 h_44 | exact lpB_n h3 (by omega)) ls (lv_sub hl [0, 1, 2, 4, 5, 6] rfl)
  exact L9 (S 0 1 + 1) 0 0 1000000 (by omega) (by omega) rfl ls hl

set_option maxHeartbeats 4000000 in
set_option maxRecDepth 100000 in
theorem k_X0_secondsTo (l : Launch) (D : va_G) (q : Nat → Nat) (k : Nat → ClassId) (r : Nat → Nat) (S Z : Nat → Nat → Nat) (a0 : Nat) (t0 : Nat) (hB : Bd S) (hZ1 : ∀ e, Z 1 e ≤ 1000000) (hZ0 : ∀ p, Z 0 p ≤ 1) (ha : a0 < 20) (ht : t0 < 20) : Met l yX0_secondsTo wsX0_secondsTo ({ frames := 2, cells := 0, slots := 0, locals := 49 } : Room) (va_Pc [.ref (q 2), .ref (q 1), .int (nI a0), .int (nI t0)] (rB D k (wC q k r S Z))) (vp_Si (fun r => r = rI (sTo S (oZ Z) (Z 1) a0 t0))) 0 0 (fun _ => False) := by
  refine Met.ofW (cc := cX0_secondsTo) (maxL := 5) (ret := (some .int)) (by decide) rfl ?_
  intro p e s m args below meth c s₁ B hml hv
  obtain ⟨rfl, hP, hX⟩ := hv
  have hx := B.exec
  have hb := B.bytes
  have hr := B.returns
  have hts := atoms_spec (ws := wsX0_secondsTo) B.pre
  have hown : s.vm.findClass RX0 = some m.cls := findClass_of_methodNamed B.named
  have hlocks := B.notSynchronized
  have f0 := hB.1
  have f3 := lpB_ok (S := S) (o := oZ Z) (r := Z 1) (t := t0) (S 0 1)
  have hl := lv_entry ([.ref (q 2), .ref (q 1), .int (nI a0), .int (nI t0)]) (n := 5) (Nat.le_of_ble_eq_true rfl)
  rw [lg_entry_eq]
  generalize (lg_sl ([.ref (q 2), .ref (q 1), .int (nI a0), .int (nI t0)]) ++ List.replicate (5 - (lg_sl ([.ref (q 2), .ref (q 1), .int (nI a0), .int (nI t0)])).length) Slot.unset).toArray = ls at hl ⊢
  have hl : lv_has ls 5 [(0, .ref (q 2)), (1, .ref (q 1)), (2, .int (nI a0)), (3, .int (nI t0))] := hl
  refine lv_iload_n hx hb dX0_secondsTo_0 rfl (lv_at hl 2 rfl) ?_
  refine lv_iload_n hx hb dX0_secondsTo_1 rfl (lv_at hl 3 rfl) ?_
  refine na_icmp_ne (tgt := 7) hx hb (by omega) (by omega) dX0_secondsTo_2 (by decide) (fun h_2 => ?_) (fun h_2 => ?_)
  · skip
    refine lv_aload_n hx hb dX0_secondsTo_7 rfl (lv_at hl 0 rfl) ?_
    refine lv_aload_n hx hb dX0_secondsTo_8 rfl (lv_at hl 1 rfl) ?_
    refine lv_iload_n hx hb dX0_secondsTo_9 rfl (lv_at hl 3 rfl) ?_
    refine rd_V (As := [.ref (q 1), .int (nI t0)]) (rest := []) ⟨hx, hb, hml, hown, hts⟩ (k_X0_lastPassage l D q k r S Z t0 hB hZ1 hZ0 ht) (cwV 2 hts gX0_secondsTo_X0_lastPassage rfl rfl rfl (by decide +kernel) ⟨by decide, by decide⟩) hX hP (q0 := 2) rfl rfl rfl hl.1 rfl (Nat.le_of_ble_eq_true rfl) dX0_secondsTo_10 ⟨Nat.zero_le _, Nat.zero_le _⟩ ?_
    refine lv_istore (lv' := [(4, .int (pI ((lpB S (oZ Z) (Z 1) t0 (S 0 1)).1))), (0, .ref (q 2)), (1, .ref (q 1)), (2, .int (nI a0)), (3, .int (nI t0))]) hx hb dX0_secondsTo_13 hl (by decide) rfl (fun ls hl => ?_)
    refine lv_iload hx hb dX0_secondsTo_15 (lv_at hl 0 rfl) ?_
    refine lv_iconst (v := pI 0) hx hb dX0_secondsTo_17 (by decide) ?_
    refine np_icmp_ne (tgt := 25) hx hb (by omega) (by omega) dX0_secondsTo_18 (by decide) (fun h_18 => ?_) (fun h_18 => ?_)
    · skip
      refine lv_aload_n hx hb dX0_secondsTo_25 rfl (lv_at hl 1 rfl) ?_
      refine lv_aload_n hx hb dX0_secondsTo_26 rfl (lv_at hl 2 rfl) ?_
      refine lv_iload hx hb dX0_secondsTo_27 (lv_at hl 0 rfl) ?_
      refine na_as (y := nI ((lpB S (oZ Z) (Z 1) t0 (S 0 1)).1 - 1)) (pI_pos (by omega)) ?_
      refine rd_V (As := [.ref (q 1), .int (nI ((lpB S (oZ Z) (Z 1) t0 (S 0 1)).1 - 1))]) (rest := []) ⟨hx, hb, hml, hown, hts⟩ (k_X0_secondAt l D q k r S Z ((lpB S (oZ Z) (Z 1) t0 (S 0 1)).1 - 1) hB hZ1 hZ0 (by omega)) (cwV 2 hts gX0_secondsTo_X0_secondAt rfl rfl rfl (by decide +kernel) ⟨by decide, by decide⟩) hX hP (q0 := 2) rfl rfl rfl hl.1 rfl (Nat.le_of_ble_eq_true rfl) dX0_secondsTo_29 ⟨Nat.zero_le _, Nat.zero_le _⟩ ?_
      exact W.iret (v := nI (sAt S (oZ Z) (Z 1) ((lpB S (oZ Z) (Z 1) t0 (S 0 1)).1 - 1))) hx hb hr (fun t ht hW => ⟨_, rfl, by have f4 := f3.2.2.2 (by omega); rw [sTo, if_neg h_2, rI_some (by omega), f4.1], ht⟩) (fun _ h => by cases h) dX0_secondsTo_32
    · skip
      refine lv_iconst (v := pI 0) hx hb dX0_secondsTo_21 (by decide) ?_
      refine lv_goto (tgt := 32) hx hb dX0_secondsTo_22 (by decide) ?_
      exact W.iret (v := pI 0) hx hb hr (fun t ht hW => ⟨_, rfl, by rw [sTo, if_neg h_2, f3.2.2.1 h_18]; exact rI_none.symm, ht⟩) (fun _ h => by cases h) dX0_secondsTo_32
  · skip
    refine lv_iconst (v := nI 0) hx hb dX0_secondsTo_5 (by decide) ?_
    exact W.iret (v := nI 0) hx hb hr (fun t ht hW => ⟨_, rfl, by rw [sTo, if_pos h_2]; rfl, ht⟩) (fun _ h => by cases h) dX0_secondsTo_6

set_option maxHeartbeats 4000000 in
set_option maxRecDepth 100000 in
theorem k_X0_passageBefore (l : Launch) (D : va_G) (q : Nat → Nat) (k : Nat → ClassId) (r : Nat → Nat) (S Z : Nat → Nat → Nat) (e0 : Nat) (hB : Bd S) (hZ1 : ∀ e, Z 1 e ≤ 1000000) (hZ0 : ∀ p, Z 0 p ≤ 1) (he : e0 < 40) : Met l yX0_passageBefore wsX0_passageBefore ({ frames := 2, cells := 0, slots := 0, locals := 46 } : Room) (va_Pc [.ref (q 2), .ref (q 1), .int (nI e0)] (rB D k (wC q k r S Z))) (vp_Si (fun r => r = pI (pBf S (oZ Z) (Z 1) e0))) 0 0 (fun _ => False) := by
  refine Met.ofW (cc := cX0_passageBefore) (maxL := 4) (ret := (some .int)) (by decide) rfl ?_
  intro p e s m args below meth c s₁ B hml hv
  obtain ⟨rfl, hP, hX⟩ := hv
  have hx := B.exec
  have hb := B.bytes
  have hr := B.returns
  have hts := atoms_spec (ws := wsX0_passageBefore) B.pre
  have hown : s.vm.findClass RX0 = some m.cls := findClass_of_methodNamed B.named
  have hlocks := B.notSynchronized
  have hf_15 := hts (.fieldLink RX0 15 "FloorGraph$Drive" "reached" "[I") (by decide +kernel)
  have hf_22 : (Cond.fieldLinkNest "FloorGraph$Drive" 22 "FloorGraph$Floor" "passages" "I" "FloorGraph").before _ s = true := va_Nw.use (A := [.ref (q 2), .ref (q 1), .int (nI e0)].toArray) rfl (hX.2.1 ("FloorGraph$Drive", 22, "FloorGraph$Floor", "passages", "I", "FloorGraph") (by decide +kernel))
  have hf_31 : (Cond.fieldLinkNest "FloorGraph$Drive" 31 "FloorGraph$Floor" "goals" "[I" "FloorGraph").before _ s = true := va_Nw.use (A := [.ref (q 2), .ref (q 1), .int (nI e0)].toArray) rfl (hX.2.1 ("FloorGraph$Drive", 31, "FloorGraph$Floor", "goals", "[I", "FloorGraph") (by decide +kernel))
  have hin_X0 : ∀ w ∈ u_ws RX0 TX0 3, w ∈ wsX0_passageBefore := by decide +kernel
  have hin_X1 : ∀ w ∈ u_ws RX1 TX1 14, w ∈ wsX0_passageBefore := by decide +kernel
  have f0 := hB.1
  have fr := hZ1 e0
  have ff0 : fl e0 < 2 * 20 := fl_lt (by omega)
  have hl := lv_entry ([.ref (q 2), .ref (q 1), .int (nI e0)]) (n := 4) (Nat.le_of_ble_eq_true rfl)
  rw [lg_entry_eq]
  generalize (lg_sl ([.ref (q 2), .ref (q 1), .int (nI e0)]) ++ List.replicate (4 - (lg_sl ([.ref (q 2), .ref (q 1), .int (nI e0)])).length) Slot.unset).toArray = ls at hl ⊢
  have hl : lv_has ls 4 [(0, .ref (q 2)), (1, .ref (q 1)), (2, .int (nI e0))] := hl
  refine lv_aload_n hx hb dX0_passageBefore_0 rfl (lv_at hl 0 rfl) ?_
  refine va_get (D := D) (v := .ref (q 16)) hx hb hts hin_X0 hown hX.1 hP 2 rfl rfl 1 (by decide) hf_15 (fun _ h9 => h9) rfl dX0_passageBefore_1 ?_
  refine lv_iload_n hx hb dX0_passageBefore_4 rfl (lv_at hl 2 rfl) ?_
  refine na_iald hx hb hX.1 hP 16 0 rfl rfl (by omega) (by decide) dX0_passageBefore_5 ?_
  refine na_if_ne (tgt := 11) hx hb (by omega) dX0_passageBefore_6 (by decide) (fun h_6 => ?_) (fun h_6 => ?_)
  · skip
    refine lv_iconst (v := nI 0) hx hb dX0_passageBefore_11 (by decide) ?_
    refine lv_istore_n (lv' := [(3, .int (nI 0)), (0, .ref (q 2)), (1, .ref (q 1)), (2, .int (nI e0))]) hx hb dX0_passageBefore_12 rfl hl (by decide) rfl (fun ls hl => ?_)
    have L13 : ∀ (n13 : Nat) (i : Nat), (S 0 1 < i + n13) → (h1 : i ≤ S 0 1) → (h3 : ff (fun p => decide (S 8 p = fl e0 ∧ sBh S (oZ Z) (Z 1) p = Z 1 e0)) i = 0) → ∀ (ls : Array Slot), lv_has ls 4 [(3, .int (nI i)), (0, .ref (q 2)), (1, .ref (q 1)), (2, .int (nI e0))] → W p l e (headSpec wsX0_passageBefore ({ frames := 2, cells := 0, slots := 0, locals := 46 } : Room)).room s m [.ref (q 2), .ref (q 1), .int (nI e0)].toArray below meth c s.heap [] 0 0 (MQ below (vp_Si (fun r => r = pI (pBf S (oZ Z) (Z 1) e0))) [.ref (q 2), .ref (q 1), .int (nI e0)].toArray s 0 0 (fun _ => False)) (F0 m 13 ls []) := by
      intro n13
      induction n13 with
      | zero =>
        intro i hfuel13 h1 h3 ls hl
        exact absurd hfuel13 (by omega)
      | succ n13 ih13 =>
        intro i hfuel13 h1 h3 ls hl
        refine lv_iload_n hx hb dX0_passageBefore_13 rfl (lv_at hl 0 rfl) ?_
        refine lv_aload_n hx hb dX0_passageBefore_14 rfl (lv_at hl 2 rfl) ?_
        refine va_getN (D := D) (v := .int (nI (S 0 1))) hx hb hts hin_X1 hown hX.1 hP 1 rfl rfl 7 (by decide) hf_22 (fun _ h9 => h9) rfl dX0_passageBefore_15 ?_
        refine na_icmp_ge (tgt := 56) hx hb (by omega) (by omega) dX0_passageBefore_18 (by decide) (fun h_18 => ?_) (fun h_18 => ?_)
        · skip
          refine lv_iconst (v := pI 0) hx hb dX0_passageBefore_56 (by decide) ?_
          exact W.iret (v := pI 0) hx hb hr (fun t ht hW => ⟨_, rfl, by first | rw [pBf, if_pos h_6] | rw [pBf, if_neg (by omega), ← show i = S 0 1 by omega, h3], ht⟩) (fun _ h => by cases h) dX0_passageBefore_57
        · skip
          have f7 := hB.2.2.2.1 i h_18
          have fs := sBh_le (fun p => (hB.2.2.1 p).1) (fun i => (hB.2.1 i).2.1) hZ1 (o := oZ Z) i
          refine lv_aload_n hx hb dX0_passageBefore_21 rfl (lv_at hl 2 rfl) ?_
          refine va_getN (D := D) (v := .ref (q 10)) hx hb hts hin_X1 hown hX.1 hP 1 rfl rfl 9 (by decide) hf_31 (fun _ h9 => h9) rfl dX0_passageBefore_22 ?_
          refine lv_iload_n hx hb dX0_passageBefore_25 rfl (lv_at hl 0 rfl) ?_
          refine na_iald hx hb hX.1 hP 10 0 rfl rfl (by omega) (by decide) dX0_passageBefore_26 ?_
          refine lv_iload_n hx hb dX0_passageBefore_27 rfl (lv_at hl 3 rfl) ?_
          refine lv_iconst (v := nI 1) hx hb dX0_passageBefore_28 (by decide) ?_
          refine na_ixor1 hx hb (by omega) dX0_passageBefore_29 ?_
          refine na_icmp_ne (tgt := 50) hx hb (by omega) (by omega) dX0_passageBefore_30 (by decide) (fun h_30 => ?_) (fun h_30 => ?_)
          · skip
            refine lv_iinc (v := nI (i + 1)) (lv' := [(3, .int (nI (i + 1))), (0, .ref (q 2)), (1, .ref (q 1)), (2, .int (nI e0))]) hx hb dX0_passageBefore_50 hl (k := 0) rfl (nI_add _ 1) (by decide) rfl (fun ls hl => ?_)
            refine lv_goto (tgt := 13) hx hb dX0_passageBefore_53 (by decide) ?_
            exact ih13 (i + 1) (by omega) (by omega) (ff_s h3 (by simp; omega)) ls hl
          · skip
            refine lv_aload_n hx hb dX0_passageBefore_33 rfl (lv_at hl 1 rfl) ?_
            refine lv_aload_n hx hb dX0_passageBefore_34 rfl (lv_at hl 2 rfl) ?_
            refine lv_iload_n hx hb dX0_passageBefore_35 rfl (lv_at hl 0 rfl) ?_
            refine rd_V (As := [.ref (q 1), .int (nI i)]) (rest := []) ⟨hx, hb, hml, hown, hts⟩ (k_X0_secondBehind l D q k r S Z i hB hZ1 hZ0 h_18) (cwV 2 hts gX0_passageBefore_X0_secondBehind rfl rfl rfl (by decide +kernel) ⟨by decide, by decide⟩) hX hP (q0 := 2) rfl rfl rfl hl.1 rfl (Nat.le_of_ble_eq_true rfl) dX0_passageBefore_36 ⟨Nat.zero_le _, Nat.zero_le _⟩ ?_
            refine lv_aload_n hx hb dX0_passageBefore_39 rfl (lv_at hl 1 rfl) ?_
            refine va_get (D := D) (v := .ref (q 16)) hx hb hts hin_X0 hown hX.1 hP 2 rfl rfl 1 (by decide) hf_15 (fun _ h9 => h9) rfl dX0_passageBefore_40 ?_
            refine lv_iload_n hx hb dX0_passageBefore_43 rfl (lv_at hl 3 rfl) ?_
            refine na_iald hx hb hX.1 hP 16 0 rfl rfl (by omega) (by decide) dX0_passageBefore_44 ?_
            refine na_icmp_ne (tgt := 50) hx hb (by omega) (by omega) dX0_passageBefore_45 (by decide) (fun h_45 => ?_) (fun h_45 => ?_)
            · skip
              refine lv_iinc (v := nI (i + 1)) (lv' := [(3, .int (nI (i + 1))), (0, .ref (q 2)), (1, .ref (q 1)), (2, .int (nI e0))]) hx hb dX0_passageBefore_50 hl (k := 0) rfl (nI_add _ 1) (by decide) rfl (fun ls hl => ?_)
              refine lv_goto (tgt := 13) hx hb dX0_passageBefore_53 (by decide) ?_
              exact ih13 (i + 1) (by omega) (by omega) (ff_s h3 (by simp; omega)) ls hl
            · skip
              refine lv_iload_n hx hb dX0_passageBefore_48 rfl (lv_at hl 0 rfl) ?_
              exact W.iret (v := nI i) hx hb hr (fun t ht hW => ⟨_, rfl, by rw [pBf, if_neg (by omega), ff_y h3 (by simp; omega) _ h_18]; exact pI_s i, ht⟩) (fun _ h => by cases h) dX0_passageBefore_49
    exact L13 (S 0 1 + 1) 0 (by omega) (by omega) rfl ls hl
  · skip
    refine lv_iconst (v := pI 0) hx hb dX0_passageBefore_9 (by decide) ?_
    exact W.iret (v := pI 0) hx hb hr (fun t ht hW => ⟨_, rfl, by first | rw [pBf, if_pos h_6] | rw [pBf, if_neg (by omega), ← show i = S 0 1 by omega, h3], ht⟩) (fun _ h => by cases h) dX0_passageBefore_10
end
section
set_option maxHeartbeats 4000000 in
set_option maxRecDepth 100000 in
theorem k_X2_hasCharger (l : Launch) (D : va_G) (q : Nat → Nat) (k : Nat → ClassId) (r : Nat → Nat) (S Z : Nat → Nat → Nat) (p0 : Nat) (hB : Bd S) (hp : p0 < 20) : Met l yX2_hasCharger wsX2_hasCharger ({ frames := 0, cells := 0, slots := 0, locals := 0 } : Room) (va_Pc [.ref (q 0), .int (nI p0)] (rB D k (wC q k r S Z))) (vp_Si (fun r => r = nI (bN (anyB (fun j => decide (S 12 j = p0)) (S 0 3))))) 0 0 (fun _ => False) := by
  refine Met.ofW (cc := cX2_hasCharger) (maxL := 3) (ret := (some .boolean)) (by decide) rfl ?_
  intro p e s m args below meth c s₁ B hml hv
  obtain ⟨rfl, hP, hX⟩ := hv
  have hx := B.exec
  have hb := B.bytes
  have hr := B.returns
  have hts := atoms_spec (ws := wsX2_hasCharger) B.pre
  have hown : s.vm.findClass RX2 = some m.cls := findClass_of_methodNamed B.named
  have hlocks := B.notSynchronized
  have hf_27 := hts (.fieldLink RX2 27 "FloorGraph" "chargerPieces" "[I") (by decide +kernel)
  have hf_158 := hts (.fieldLink RX2 158 "FloorGraph" "chargers" "I") (by decide +kernel)
  have hin_X2 : ∀ w ∈ u_ws RX2 TX2 12, w ∈ wsX2_hasCharger := by decide +kernel
  have f0 := hB.1
  have hl := lv_entry ([.ref (q 0), .int (nI p0)]) (n := 3) (Nat.le_of_ble_eq_true rfl)
  rw [lg_entry_eq]
  generalize (lg_sl ([.ref (q 0), .int (nI p0)]) ++ List.replicate (3 - (lg_sl ([.ref (q 0), .int (nI p0)])).length) Slot.unset).toArray = ls at hl ⊢
  have hl : lv_has ls 3 [(0, .ref (q 0)), (1, .int (nI p0))] := hl
  refine lv_iconst (v := nI 0) hx hb dX2_hasCharger_0 (by decide) ?_
  refine lv_istore_n (lv' := [(2, .int (nI 0)), (0, .ref (q 0)), (1, .int (nI p0))]) hx hb dX2_hasCharger_1 rfl hl (by decide) rfl (fun ls hl => ?_)
  have L2 : ∀ (n2 : Nat) (i : Nat), (S 0 3 < i + n2) → (h1 : i ≤ S 0 3) → (h3 : anyB (fun j => decide (S 12 j = p0)) i = false) → ∀ (ls : Array Slot), lv_has ls 3 [(2, .int (nI i)), (0, .ref (q 0)), (1, .int (nI p0))] → W p l e (headSpec wsX2_hasCharger ({ frames := 0, cells := 0, slots := 0, locals := 0 } : Room)).room s m [.ref (q 0), .int (nI p0)].toArray below meth c s.heap [] 0 0 (MQ below (vp_Si (fun r => r = nI (bN (anyB (fun j => decide (S 12 j = p0)) (S 0 3))))) [.ref (q 0), .int (nI p0)].toArray s 0 0 (fun _ => False)) (F0 m 2 ls []) := by
    intro n2
    induction n2 with
    | zero =>
      intro i hfuel2 h1 h3 ls hl
      exact absurd hfuel2 (by omega)
    | succ n2 ih2 =>
      intro i hfuel2 h1 h3 ls hl
      have f1 := hB.2.2.2.2 i
      refine lv_iload_n hx hb dX2_hasCharger_2 rfl (lv_at hl 0 rfl) ?_
      refine lv_aload_n hx hb dX2_hasCharger_3 rfl (lv_at hl 1 rfl) ?_
      refine va_get (D := D) (v := .int (nI (S 0 3))) hx hb hts hin_X2 hown hX.1 hP 0 rfl rfl 5 (by decide) hf_158 (fun _ h9 => h9) rfl dX2_hasCharger_4 ?_
      refine na_icmp_ge (tgt := 28) hx hb (by omega) (by omega) dX2_hasCharger_7 (by decide) (fun h_7 => ?_) (fun h_7 => ?_)
      · skip
        refine lv_iconst (v := nI 0) hx hb dX2_hasCharger_28 (by decide) ?_
        exact W.zret (v := nI 0) hx hb hr (nar_b _ (by first | decide | omega | exact bN_le _)) (fun t ht hW => ⟨_, rfl, bN0 (by rw [← show i = S 0 3 by omega]; exact h3), ht⟩) (fun _ h => by cases h) dX2_hasCharger_29
      · skip
        refine lv_aload_n hx hb dX2_hasCharger_10 rfl (lv_at hl 1 rfl) ?_
        refine va_get (D := D) (v := .ref (q 19)) hx hb hts hin_X2 hown hX.1 hP 0 rfl rfl 4 (by decide) hf_27 (fun _ h9 => h9) rfl dX2_hasCharger_11 ?_
        refine lv_iload_n hx hb dX2_hasCharger_14 rfl (lv_at hl 0 rfl) ?_
        refine na_iald hx hb hX.1 hP 19 0 rfl rfl (by omega) (by decide) dX2_hasCharger_15 ?_
        refine lv_iload_n hx hb dX2_hasCharger_16 rfl (lv_at hl 2 rfl) ?_
        refine na_icmp_ne (tgt := 22) hx hb (by omega) (by omega) dX2_hasCharger_17 (by decide) (fun h_17 => ?_) (fun h_17 => ?_)
        · skip
          refine lv_iinc (v := nI (i + 1)) (lv' := [(2, .int (nI (i + 1))), (0, .ref (q 0)), (1, .int (nI p0))]) hx hb dX2_hasCharger_22 hl (k := 0) rfl (nI_add _ 1) (by decide) rfl (fun ls hl => ?_)
          refine lv_goto (tgt := 2) hx hb dX2_hasCharger_25 (by decide) ?_
          exact ih2 (i + 1) (by omega) (by omega) (anyB_s h3 (by simp; omega)) ls hl
        · skip
          refine lv_iconst (v := nI 1) hx hb dX2_hasCharger_20 (by decide) ?_
          exact W.zret (v := nI 1) hx hb hr (nar_b _ (by first | decide | omega | exact bN_le _)) (fun t ht hW => ⟨_, rfl, bN1 (anyB_t (i := i) (by simp; omega) (by omega)), ht⟩) (fun _ h => by cases h) dX2_hasCharger_21
  exact L2 (S 0 3 + 1) 0 (by omega) (by omega) rfl ls hl

set_option maxHeartbeats 4000000 in
set_option maxRecDepth 100000 in
theorem k_X2_rows (l : Launch) (D : va_G) (q : Nat → Nat) (k : Nat → ClassId) (r : Nat → Nat) (S Z : Nat → Nat → Nat) : Met l yX2_rows wsX2_rows ({ frames := 0, cells := 0, slots := 0, locals := 0 } : Room) (va_Pc [.ref (q 0)] (rB D k (wC q k r S Z))) (vp_Si (fun r => r = nI (S 0 5))) 0 0 (fun _ => False) := by
  refine Met.ofW (cc := cX2_rows) (maxL := 1) (ret := (some .int)) (by decide) rfl ?_
  intro p e s m args below meth c s₁ B hml hv
  obtain ⟨rfl, hP, hX⟩ := hv
  have hx := B.exec
  have hb := B.bytes
  have hr := B.returns
  have hts := atoms_spec (ws := wsX2_rows) B.pre
  have hown : s.vm.findClass RX2 = some m.cls := findClass_of_methodNamed B.named
  have hlocks := B.notSynchronized
  have hf_174 := hts (.fieldLink RX2 174 "FloorGraph" "rowsWorked" "I") (by decide +kernel)
  have hin_X2 : ∀ w ∈ u_ws RX2 TX2 12, w ∈ wsX2_rows := by decide +kernel
  have hl := lv_entry ([.ref (q 0)]) (n := 1) (Nat.le_of_ble_eq_true rfl)
  rw [lg_entry_eq]
  generalize (lg_sl ([.ref (q 0)]) ++ List.replicate (1 - (lg_sl ([.ref (q 0)])).length) Slot.unset).toArray = ls at hl ⊢
  have hl : lv_has ls 1 [(0, .ref (q 0))] := hl
  refine lv_aload_n hx hb dX2_rows_0 rfl (lv_at hl 0 rfl) ?_
  refine va_get (D := D) (v := .int (nI (S 0 5))) hx hb hts hin_X2 hown hX.1 hP 0 rfl rfl 11 (by decide) hf_174 (fun _ h9 => h9) rfl dX2_rows_1 ?_
  exact W.iret (v := nI (S 0 5)) hx hb hr (fun t ht hW => ⟨_, rfl, rfl, ht⟩) (fun _ h => by cases h) dX2_rows_4
end
section
set_option maxHeartbeats 4000000 in
set_option maxRecDepth 100000 in
theorem k_X3_in (l : Launch) (v0 : Int32) (a0 : Int32) (b0 : Int32) : Met l yX3_in wsX3_in ({ frames := 0, cells := 0, slots := 0, locals := 0 } : Room) (va_Pc [.int v0, .int a0, .int b0] (fun _ => True)) (vp_Si (fun r => r = nI (bN (inR a0.toInt b0.toInt v0)))) 0 0 (fun _ => False) := by
  refine Met.ofW (cc := cX3_in) (maxL := 3) (ret := (some .boolean)) (by decide) rfl ?_
  intro p e s m args below meth c s₁ B hml hv
  obtain ⟨rfl, -⟩ := hv
  have hx := B.exec
  have hb := B.bytes
  have hr := B.returns
  have hts := atoms_spec (ws := wsX3_in) B.pre
  have hown : s.vm.findClass RX3 = some m.cls := findClass_of_methodNamed B.named
  have hlocks := B.notSynchronized
  have hl := lv_entry ([.int v0, .int a0, .int b0]) (n := 3) (Nat.le_of_ble_eq_true rfl)
  rw [lg_entry_eq]
  generalize (lg_sl ([.int v0, .int a0, .int b0]) ++ List.replicate (3 - (lg_sl ([.int v0, .int a0, .int b0])).length) Slot.unset).toArray = ls at hl ⊢
  have hl : lv_has ls 3 [(0, .int v0), (1, .int a0), (2, .int b0)] := hl
  refine lv_iload_n hx hb dX3_in_0 rfl (lv_at hl 0 rfl) ?_
  refine lv_iload_n hx hb dX3_in_1 rfl (lv_at hl 1 rfl) ?_
  refine nr_icmp_lt (tgt := 14) hx hb dX3_in_2 (by decide) (fun h_2 => ?_) (fun h_2 => ?_)
  · skip
    refine lv_iconst (v := nI 0) hx hb dX3_in_14 (by decide) ?_
    exact W.zret (v := nI 0) hx hb hr (nar_b _ (by first | decide | omega | exact bN_le _)) (fun t ht hW => ⟨_, rfl, bN0 (inR_f (by omega)), ht⟩) (fun _ h => by cases h) dX3_in_15
  · skip
    refine lv_iload_n hx hb dX3_in_5 rfl (lv_at hl 0 rfl) ?_
    refine lv_iload_n hx hb dX3_in_6 rfl (lv_at hl 2 rfl) ?_
    refine nr_icmp_gt (tgt := 14) hx hb dX3_in_7 (by decide) (fun h_7 => ?_) (fun h_7 => ?_)
    · skip
      refine lv_iconst (v := nI 0) hx hb dX3_in_14 (by decide) ?_
      exact W.zret (v := nI 0) hx hb hr (nar_b _ (by first | decide | omega | exact bN_le _)) (fun t ht hW => ⟨_, rfl, bN0 (inR_f (by omega)), ht⟩) (fun _ h => by cases h) dX3_in_15
    · skip
      refine lv_iconst (v := nI 1) hx hb dX3_in_10 (by decide) ?_
      refine lv_goto (tgt := 15) hx hb dX3_in_11 (by decide) ?_
      exact W.zret (v := nI 1) hx hb hr (nar_b _ (by first | decide | omega | exact bN_le _)) (fun t ht hW => ⟨_, rfl, bN1 (inR_t (by omega) (by omega)), ht⟩) (fun _ h => by cases h) dX3_in_15

set_option maxHeartbeats 4000000 in
set_option maxRecDepth 100000 in
theorem k_X3_isPiece (l : Launch) (D : va_G) (q : Nat → Nat) (k : Nat → ClassId) (S Z : Nat → Nat → Nat) (x0 : Int32) (hn : S 0 0 ≤ 20) : Met l yX3_isPiece wsX3_isPiece ({ frames := 1, cells := 0, slots := 0, locals := 22 } : Room) (va_Pc [.ref (q 0), .int x0] (rB D k (wM q k S Z))) (vp_Si (fun r => r = nI (bN (inR 0 ((S 0 0 : Int) - 1) x0)))) 0 0 (fun _ => False) := by
  refine Met.ofW (cc := cX3_isPiece) (maxL := 2) (ret := (some .boolean)) (by decide) rfl ?_
  intro p e s m args below meth c s₁ B hml hv
  obtain ⟨rfl, hP, hX⟩ := hv
  have hx := B.exec
  have hb := B.bytes
  have hr := B.returns
  have hts := atoms_spec (ws := wsX3_isPiece) B.pre
  have hown : s.vm.findClass RX3 = some m.cls := findClass_of_methodNamed B.named
  have hlocks := B.notSynchronized
  have hf_63 := hts (.fieldLink RX3 63 "FloorGraphModel" "pieces" "I") (by decide +kernel)
  have hin_X3 : ∀ w ∈ u_ws RX3 TX3 24, w ∈ wsX3_isPiece := by decide +kernel
  have hl := lv_entry ([.ref (q 0), .int x0]) (n := 2) (Nat.le_of_ble_eq_true rfl)
  rw [lg_entry_eq]
  generalize (lg_sl ([.ref (q 0), .int x0]) ++ List.replicate (2 - (lg_sl ([.ref (q 0), .int x0])).length) Slot.unset).toArray = ls at hl ⊢
  have hl : lv_has ls 2 [(0, .ref (q 0)), (1, .int x0)] := hl
  refine lv_iload_n hx hb dX3_isPiece_0 rfl (lv_at hl 1 rfl) ?_
  refine lv_iconst (v := nI 0) hx hb dX3_isPiece_1 (by decide) ?_
  refine lv_aload_n hx hb dX3_isPiece_2 rfl (lv_at hl 0 rfl) ?_
  refine va_get (D := D) (v := .int (nI (S 0 0))) hx hb hts hin_X3 hown hX.1 hP 0 rfl rfl 1 (by decide) hf_63 (fun _ h9 => h9) rfl dX3_isPiece_3 ?_
  refine lv_iconst (v := nI 1) hx hb dX3_isPiece_6 (by decide) ?_
  refine lv_isub hx hb dX3_isPiece_7 ?_
  refine na_as (y := pI (S 0 0)) rfl ?_
  refine rd_S (As := [.int x0, .int (nI 0), .int (pI (S 0 0))]) (rest := []) ⟨hx, hb, hml, hown, hts⟩ (k_X3_in l x0 (nI 0) (pI (S 0 0)) ) (va_cwS 3 hts gX3_isPiece_X3_in rfl rfl rfl (by decide +kernel) ⟨by decide, by decide⟩) rfl hl.1 rfl (Nat.le_of_ble_eq_true rfl) dX3_isPiece_8 ⟨Nat.zero_le _, Nat.zero_le _⟩ ?_
  exact W.zret (v := nI (bN (inR (nI 0).toInt (pI (S 0 0)).toInt x0))) hx hb hr (nar_b _ (by first | decide | omega | exact bN_le _)) (fun t ht hW => ⟨_, rfl, by rw [pI_toInt (by omega)]; rfl, ht⟩) (fun _ h => by cases h) dX3_isPiece_11

set_option maxHeartbeats 4000000 in
set_option maxRecDepth 100000 in
theorem k_X3_isDrive (l : Launch) (D : va_G) (q : Nat → Nat) (k : Nat → ClassId) (S Z : Nat → Nat → Nat) (x0 : Int32) (x1 : Int32) (x2 : Int32) (x3 : Int32) (hB : Bd S) : Met l yX3_isDrive wsX3_isDrive ({ frames := 2, cells := 0, slots := 0, locals := 43 } : Room) (va_Pc [.ref (q 0), .int x0, .int x1, .int x2, .int x3] (rB D k (wM q k S Z))) (vp_Si (fun r => r = nI (bN (isD S x0 x1 x2 x3)))) 0 0 (fun _ => False) := by
  refine Met.ofW (cc := cX3_isDrive) (maxL := 5) (ret := (some .boolean)) (by decide) rfl ?_
  intro p e s m args below meth c s₁ B hml hv
  obtain ⟨rfl, hP, hX⟩ := hv
  have hx := B.exec
  have hb := B.bytes
  have hr := B.returns
  have hts := atoms_spec (ws := wsX3_isDrive) B.pre
  have hown : s.vm.findClass RX3 = some m.cls := findClass_of_methodNamed B.named
  have hlocks := B.notSynchronized
  have hf_92 := hts (.fieldLink RX3 92 "FloorGraphModel" "robots" "I") (by decide +kernel)
  have hin_X3 : ∀ w ∈ u_ws RX3 TX3 24, w ∈ wsX3_isDrive := by decide +kernel
  have f0 := hB.1
  have hl := lv_entry ([.ref (q 0), .int x0, .int x1, .int x2, .int x3]) (n := 5) (Nat.le_of_ble_eq_true rfl)
  rw [lg_entry_eq]
  generalize (lg_sl ([.ref (q 0), .int x0, .int x1, .int x2, .int x3]) ++ List.replicate (5 - (lg_sl ([.ref (q 0), .int x0, .int x1, .int x2, .int x3])).length) Slot.unset).toArray = ls at hl ⊢
  have hl : lv_has ls 5 [(0, .ref (q 0)), (1, .int x0), (2, .int x1), (3, .int x2), (4, .int x3)] := hl
  refine lv_iload_n hx hb dX3_isDrive_0 rfl (lv_at hl 1 rfl) ?_
  refine lv_iconst (v := nI 0) hx hb dX3_isDrive_1 (by decide) ?_
  refine lv_aload_n hx hb dX3_isDrive_2 rfl (lv_at hl 0 rfl) ?_
  refine va_get (D := D) (v := .int (nI (S 0 2))) hx hb hts hin_X3 hown hX.1 hP 0 rfl rfl 13 (by decide) hf_92 (fun _ h9 => h9) rfl dX3_isDrive_3 ?_
  refine lv_iconst (v := nI 1) hx hb dX3_isDrive_6 (by decide) ?_
  refine lv_isub hx hb dX3_isDrive_7 ?_
  refine na_as (y := pI (S 0 2)) rfl ?_
  refine rd_S (As := [.int x0, .int (nI 0), .int (pI (S 0 2))]) (rest := []) ⟨hx, hb, hml, hown, hts⟩ (k_X3_in l x0 (nI 0) (pI (S 0 2)) ) (va_cwS 3 hts gX3_isDrive_X3_in rfl rfl rfl (by decide +kernel) ⟨by decide, by decide⟩) rfl hl.1 rfl (Nat.le_of_ble_eq_true rfl) dX3_isDrive_8 ⟨Nat.zero_le _, Nat.zero_le _⟩ ?_
  refine na_if_eq (tgt := 45) hx hb (by have := bN_le (inR (nI 0).toInt (pI (S 0 2)).toInt x0); omega) dX3_isDrive_11 (by decide) (fun h_11 => ?_) (fun h_11 => ?_)
  · skip
    refine lv_iconst (v := nI 0) hx hb dX3_isDrive_45 (by decide) ?_
    exact W.zret (v := nI 0) hx hb hr (nar_b _ (by first | decide | omega | exact bN_le _)) (fun t ht hW => ⟨_, rfl, isD_f (by omega) (by first | exact Or.inl h_11 | exact Or.inr (Or.inl h_19) | exact Or.inr (Or.inr (Or.inl h_27)) | exact Or.inr (Or.inr (Or.inr h_38))), ht⟩) (fun _ h => by cases h) dX3_isDrive_46
  · skip
    refine lv_aload_n hx hb dX3_isDrive_14 rfl (lv_at hl 0 rfl) ?_
    refine lv_iload_n hx hb dX3_isDrive_15 rfl (lv_at hl 2 rfl) ?_
    refine rd_V (As := [.int x1]) (rest := []) ⟨hx, hb, hml, hown, hts⟩ (k_X3_isPiece l D q k S Z x1 (by omega)) (cwV 1 hts gX3_isDrive_X3_isPiece rfl rfl rfl (by decide +kernel) ⟨by decide, by decide⟩) hX hP (q0 := 0) rfl rfl rfl hl.1 rfl (Nat.le_of_ble_eq_true rfl) dX3_isDrive_16 ⟨Nat.zero_le _, Nat.zero_le _⟩ ?_
    refine na_if_eq (tgt := 45) hx hb (by have := bN_le (inR 0 ((S 0 0 : Int) - 1) x1); omega) dX3_isDrive_19 (by decide) (fun h_19 => ?_) (fun h_19 => ?_)
    · skip
      refine lv_iconst (v := nI 0) hx hb dX3_isDrive_45 (by decide) ?_
      exact W.zret (v := nI 0) hx hb hr (nar_b _ (by first | decide | omega | exact bN_le _)) (fun t ht hW => ⟨_, rfl, isD_f (by omega) (by first | exact Or.inl h_11 | exact Or.inr (Or.inl h_19) | exact Or.inr (Or.inr (Or.inl h_27)) | exact Or.inr (Or.inr (Or.inr h_38))), ht⟩) (fun _ h => by cases h) dX3_isDrive_46
    · skip
      refine lv_aload_n hx hb dX3_isDrive_22 rfl (lv_at hl 0 rfl) ?_
      refine lv_iload_n hx hb dX3_isDrive_23 rfl (lv_at hl 3 rfl) ?_
      refine rd_V (As := [.int x2]) (rest := []) ⟨hx, hb, hml, hown, hts⟩ (k_X3_isPiece l D q k S Z x2 (by omega)) (cwV 1 hts gX3_isDrive_X3_isPiece rfl rfl rfl (by decide +kernel) ⟨by decide, by decide⟩) hX hP (q0 := 0) rfl rfl rfl hl.1 rfl (Nat.le_of_ble_eq_true rfl) dX3_isDrive_24 ⟨Nat.zero_le _, Nat.zero_le _⟩ ?_
      refine na_if_eq (tgt := 45) hx hb (by have := bN_le (inR 0 ((S 0 0 : Int) - 1) x2); omega) dX3_isDrive_27 (by decide) (fun h_27 => ?_) (fun h_27 => ?_)
      · skip
        refine lv_iconst (v := nI 0) hx hb dX3_isDrive_45 (by decide) ?_
        exact W.zret (v := nI 0) hx hb hr (nar_b _ (by first | decide | omega | exact bN_le _)) (fun t ht hW => ⟨_, rfl, isD_f (by omega) (by first | exact Or.inl h_11 | exact Or.inr (Or.inl h_19) | exact Or.inr (Or.inr (Or.inl h_27)) | exact Or.inr (Or.inr (Or.inr h_38))), ht⟩) (fun _ h => by cases h) dX3_isDrive_46
      · skip
        refine lv_iload hx hb dX3_isDrive_30 (lv_at hl 4 rfl) ?_
        refine lv_iconst (v := nI 0) hx hb dX3_isDrive_32 (by decide) ?_
        refine lv_bipush (v := nI 23) hx hb dX3_isDrive_33 (by decide) ?_
        refine rd_S (As := [.int x3, .int (nI 0), .int (nI 23)]) (rest := []) ⟨hx, hb, hml, hown, hts⟩ (k_X3_in l x3 (nI 0) (nI 23) ) (va_cwS 3 hts gX3_isDrive_X3_in rfl rfl rfl (by decide +kernel) ⟨by decide, by decide⟩) rfl hl.1 rfl (Nat.le_of_ble_eq_true rfl) dX3_isDrive_35 ⟨Nat.zero_le _, Nat.zero_le _⟩ ?_
        refine na_if_eq (tgt := 45) hx hb (by have := bN_le (inR (nI 0).toInt (nI 23).toInt x3); omega) dX3_isDrive_38 (by decide) (fun h_38 => ?_) (fun h_38 => ?_)
        · skip
          refine lv_iconst (v := nI 0) hx hb dX3_isDrive_45 (by decide) ?_
          exact W.zret (v := nI 0) hx hb hr (nar_b _ (by first | decide | omega | exact bN_le _)) (fun t ht hW => ⟨_, rfl, isD_f (by omega) (by first | exact Or.inl h_11 | exact Or.inr (Or.inl h_19) | exact Or.inr (Or.inr (Or.inl h_27)) | exact Or.inr (Or.inr (Or.inr h_38))), ht⟩) (fun _ h => by cases h) dX3_isDrive_46
        · skip
          refine lv_iconst (v := nI 1) hx hb dX3_isDrive_41 (by decide) ?_
          refine lv_goto (tgt := 46) hx hb dX3_isDrive_42 (by decide) ?_
          exact W.zret (v := nI 1) hx hb hr (nar_b _ (by first | decide | omega | exact bN_le _)) (fun t ht hW => ⟨_, rfl, isD_t (by omega) h_11 h_19 h_27 h_38, ht⟩) (fun _ h => by cases h) dX3_isDrive_46

set_option maxHeartbeats 4000000 in
set_option maxRecDepth 100000 in
theorem k_X3_thrown (l : Launch) (D : va_G) (q : Nat → Nat) (k : Nat → ClassId) (S Z : Nat → Nat → Nat) : Met l yX3_thrown wsX3_thrown ({ frames := 0, cells := 0, slots := 0, locals := 0 } : Room) (va_Pc [.ref (q 0)] (rB D k (wM q k S Z))) (vp_Si (fun r => r = nI (Z 0 0))) 0 0 (fun _ => False) := by
  refine Met.ofW (cc := cX3_thrown) (maxL := 1) (ret := (some .int)) (by decide) rfl ?_
  intro p e s m args below meth c s₁ B hml hv
  obtain ⟨rfl, hP, hX⟩ := hv
  have hx := B.exec
  have hb := B.bytes
  have hr := B.returns
  have hts := atoms_spec (ws := wsX3_thrown) B.pre
  have hown : s.vm.findClass RX3 = some m.cls := findClass_of_methodNamed B.named
  have hlocks := B.notSynchronized
  have hf_59 := hts (.fieldLink RX3 59 "FloorGraphModel" "code" "I") (by decide +kernel)
  have hin_X3 : ∀ w ∈ u_ws RX3 TX3 24, w ∈ wsX3_thrown := by decide +kernel
  have hl := lv_entry ([.ref (q 0)]) (n := 1) (Nat.le_of_ble_eq_true rfl)
  rw [lg_entry_eq]
  generalize (lg_sl ([.ref (q 0)]) ++ List.replicate (1 - (lg_sl ([.ref (q 0)])).length) Slot.unset).toArray = ls at hl ⊢
  have hl : lv_has ls 1 [(0, .ref (q 0))] := hl
  refine lv_aload_n hx hb dX3_thrown_0 rfl (lv_at hl 0 rfl) ?_
  refine va_get (D := D) (v := .int (nI (Z 0 0))) hx hb hts hin_X3 hown hX.1 hP 0 rfl rfl 0 (by decide) hf_59 (fun _ h9 => h9) rfl dX3_thrown_1 ?_
  exact W.iret (v := nI (Z 0 0)) hx hb hr (fun t ht hW => ⟨_, rfl, rfl, ht⟩) (fun _ h => by cases h) dX3_thrown_4

set_option maxHeartbeats 4000000 in
set_option maxRecDepth 100000 in
theorem k_X3_mayEnter (l : Launch) (D : va_G) (q : Nat → Nat) (k : Nat → ClassId) (S Z : Nat → Nat → Nat) (b0 : Nat) (e0 : Nat) (h0 : Nat) (hB : Bd S) (hb0 : b0 < 6) (he : e0 < 40) (hh : h0 < 24) : Met l yX3_mayEnter wsX3_mayEnter ({ frames := 0, cells := 0, slots := 0, locals := 0 } : Room) (va_Pc [.ref (q 0), .int (nI b0), .int (nI e0), .int (nI h0)] (rB D k (wM q k S Z))) (vp_Si (fun r => r = nI (bN (mvE S (S 11 b0) h0 e0)))) 0 0 (fun _ => False) := by
  refine Met.ofW (cc := cX3_mayEnter) (maxL := 5) (ret := (some .boolean)) (by decide) rfl ?_
  intro p e s m args below meth c s₁ B hml hv
  obtain ⟨rfl, hP, hX⟩ := hv
  have hx := B.exec
  have hb := B.bytes
  have hr := B.returns
  have hts := atoms_spec (ws := wsX3_mayEnter) B.pre
  have hown : s.vm.findClass RX3 = some m.cls := findClass_of_methodNamed B.named
  have hlocks := B.notSynchronized
  have hf_16 := hts (.fieldLink RX3 16 "FloorGraphModel" "wide" "[I") (by decide +kernel)
  have hf_19 := hts (.fieldLink RX3 19 "FloorGraphModel" "both" "[Z") (by decide +kernel)
  have hf_23 := hts (.fieldLink RX3 23 "FloorGraphModel" "shut" "[Z") (by decide +kernel)
  have hf_26 := hts (.fieldLink RX3 26 "FloorGraphModel" "zones" "[I") (by decide +kernel)
  have hf_41 := hts (.fieldLink RX3 41 "FloorGraphModel" "robotWide" "[I") (by decide +kernel)
  have hin_X3 : ∀ w ∈ u_ws RX3 TX3 24, w ∈ wsX3_mayEnter := by decide +kernel
  have f4 := hB.2.1 (e0 / 2)
  have f11 := hB.2.2.2.2 b0
  have hl := lv_entry ([.ref (q 0), .int (nI b0), .int (nI e0), .int (nI h0)]) (n := 5) (Nat.le_of_ble_eq_true rfl)
  rw [lg_entry_eq]
  generalize (lg_sl ([.ref (q 0), .int (nI b0), .int (nI e0), .int (nI h0)]) ++ List.replicate (5 - (lg_sl ([.ref (q 0), .int (nI b0), .int (nI e0), .int (nI h0)])).length) Slot.unset).toArray = ls at hl ⊢
  have hl : lv_has ls 5 [(0, .ref (q 0)), (1, .int (nI b0)), (2, .int (nI e0)), (3, .int (nI h0))] := hl
  refine lv_iload_n hx hb dX3_mayEnter_0 rfl (lv_at hl 2 rfl) ?_
  refine lv_iconst (v := nI 2) hx hb dX3_mayEnter_1 (by decide) ?_
  refine na_idiv2 hx hb (by omega) dX3_mayEnter_2 ?_
  refine lv_istore (lv' := [(4, .int (nI (e0 / 2))), (0, .ref (q 0)), (1, .int (nI b0)), (2, .int (nI e0)), (3, .int (nI h0))]) hx hb dX3_mayEnter_3 hl (by decide) rfl (fun ls hl => ?_)
  refine lv_aload_n hx hb dX3_mayEnter_5 rfl (lv_at hl 1 rfl) ?_
  refine va_get (D := D) (v := .ref (q 5)) hx hb hts hin_X3 hown hX.1 hP 0 rfl rfl 6 (by decide) hf_23 (fun _ h9 => h9) rfl dX3_mayEnter_6 ?_
  refine lv_iload hx hb dX3_mayEnter_9 (lv_at hl 0 rfl) ?_
  refine na_zald hx hb hX.1 hP 5 1 rfl rfl (by omega) (by decide) dX3_mayEnter_11 ?_
  refine na_if_ne (tgt := 65) hx hb (by omega) dX3_mayEnter_12 (by decide) (fun h_12 => ?_) (fun h_12 => ?_)
  · skip
    refine lv_iconst (v := nI 0) hx hb dX3_mayEnter_65 (by decide) ?_
    exact W.zret (v := nI 0) hx hb hr (nar_b _ (by first | decide | omega | exact bN_le _)) (fun t ht hW => ⟨_, rfl, bN0 (by first | (simp [mvE]; done) | (simp [mvE]; omega)), ht⟩) (fun _ h => by cases h) dX3_mayEnter_66
  · skip
    refine lv_aload_n hx hb dX3_mayEnter_15 rfl (lv_at hl 1 rfl) ?_
    refine va_get (D := D) (v := .ref (q 6)) hx hb hts hin_X3 hown hX.1 hP 0 rfl rfl 7 (by decide) hf_26 (fun _ h9 => h9) rfl dX3_mayEnter_16 ?_
    refine lv_iload hx hb dX3_mayEnter_19 (lv_at hl 0 rfl) ?_
    refine na_iald hx hb hX.1 hP 6 0 rfl rfl (by omega) (by decide) dX3_mayEnter_21 ?_
    refine lv_iload_n hx hb dX3_mayEnter_22 rfl (lv_at hl 4 rfl) ?_
    refine na_ishr hx hb (by omega) (by omega) dX3_mayEnter_23 ?_
    refine lv_iconst (v := nI 1) hx hb dX3_mayEnter_24 (by decide) ?_
    have f5 : S 6 (e0 / 2) / 2 ^ h0 ≤ S 6 (e0 / 2) := Nat.div_le_self _ _
    refine na_iand1 hx hb (by omega) dX3_mayEnter_25 ?_
    have f6 : S 6 (e0 / 2) / 2 ^ h0 % 2 < 2 := Nat.mod_lt _ (by decide)
    refine na_if_ne (tgt := 65) hx hb (by omega) dX3_mayEnter_26 (by decide) (fun h_26 => ?_) (fun h_26 => ?_)
    · skip
      refine lv_iconst (v := nI 0) hx hb dX3_mayEnter_65 (by decide) ?_
      exact W.zret (v := nI 0) hx hb hr (nar_b _ (by first | decide | omega | exact bN_le _)) (fun t ht hW => ⟨_, rfl, bN0 (by first | (simp [mvE]; done) | (simp [mvE]; omega)), ht⟩) (fun _ h => by cases h) dX3_mayEnter_66
    · skip
      refine lv_aload_n hx hb dX3_mayEnter_29 rfl (lv_at hl 1 rfl) ?_
      refine va_get (D := D) (v := .ref (q 3)) hx hb hts hin_X3 hown hX.1 hP 0 rfl rfl 4 (by decide) hf_16 (fun _ h9 => h9) rfl dX3_mayEnter_30 ?_
      refine lv_iload hx hb dX3_mayEnter_33 (lv_at hl 0 rfl) ?_
      refine na_iald hx hb hX.1 hP 3 0 rfl rfl (by omega) (by decide) dX3_mayEnter_35 ?_
      refine lv_aload_n hx hb dX3_mayEnter_36 rfl (lv_at hl 1 rfl) ?_
      refine va_get (D := D) (v := .ref (q 11)) hx hb hts hin_X3 hown hX.1 hP 0 rfl rfl 14 (by decide) hf_41 (fun _ h9 => h9) rfl dX3_mayEnter_37 ?_
      refine lv_iload_n hx hb dX3_mayEnter_40 rfl (lv_at hl 2 rfl) ?_
      refine na_iald hx hb hX.1 hP 11 0 rfl rfl (by omega) (by decide) dX3_mayEnter_41 ?_
      refine na_icmp_lt (tgt := 65) hx hb (by omega) (by omega) dX3_mayEnter_42 (by decide) (fun h_42 => ?_) (fun h_42 => ?_)
      · skip
        refine lv_iconst (v := nI 0) hx hb dX3_mayEnter_65 (by decide) ?_
        exact W.zret (v := nI 0) hx hb hr (nar_b _ (by first | decide | omega | exact bN_le _)) (fun t ht hW => ⟨_, rfl, bN0 (by first | (simp [mvE]; done) | (simp [mvE]; omega)), ht⟩) (fun _ h => by cases h) dX3_mayEnter_66
      · skip
        refine lv_iload_n hx hb dX3_mayEnter_45 rfl (lv_at hl 3 rfl) ?_
        refine lv_iconst (v := nI 2) hx hb dX3_mayEnter_46 (by decide) ?_
        refine na_irem2 hx hb (by omega) dX3_mayEnter_47 ?_
        refine na_if_eq (tgt := 61) hx hb (by omega) dX3_mayEnter_48 (by decide) (fun h_48 => ?_) (fun h_48 => ?_)
        · skip
          refine lv_iconst (v := nI 1) hx hb dX3_mayEnter_61 (by decide) ?_
          refine lv_goto (tgt := 66) hx hb dX3_mayEnter_62 (by decide) ?_
          exact W.zret (v := nI 1) hx hb hr (nar_b _ (by first | decide | omega | exact bN_le _)) (fun t ht hW => ⟨_, rfl, bN1 (by first | (simp [mvE]; done) | (simp [mvE]; omega)), ht⟩) (fun _ h => by cases h) dX3_mayEnter_66
        · skip
          refine lv_aload_n hx hb dX3_mayEnter_51 rfl (lv_at hl 1 rfl) ?_
          refine va_get (D := D) (v := .ref (q 4)) hx hb hts hin_X3 hown hX.1 hP 0 rfl rfl 5 (by decide) hf_19 (fun _ h9 => h9) rfl dX3_mayEnter_52 ?_
          refine lv_iload hx hb dX3_mayEnter_55 (lv_at hl 0 rfl) ?_
          refine na_zald hx hb hX.1 hP 4 1 rfl rfl (by omega) (by decide) dX3_mayEnter_57 ?_
          refine na_if_eq (tgt := 65) hx hb (by omega) dX3_mayEnter_58 (by decide) (fun h_58 => ?_) (fun h_58 => ?_)
          · skip
            refine lv_iconst (v := nI 0) hx hb dX3_mayEnter_65 (by decide) ?_
            exact W.zret (v := nI 0) hx hb hr (nar_b _ (by first | decide | omega | exact bN_le _)) (fun t ht hW => ⟨_, rfl, bN0 (by first | (simp [mvE]; done) | (simp [mvE]; omega)), ht⟩) (fun _ h => by cases h) dX3_mayEnter_66
          · skip
            refine lv_iconst (v := nI 1) hx hb dX3_mayEnter_61 (by decide) ?_
            refine lv_goto (tgt := 66) hx hb dX3_mayEnter_62 (by decide) ?_
            exact W.zret (v := nI 1) hx hb hr (nar_b _ (by first | decide | omega | exact bN_le _)) (fun t ht hW => ⟨_, rfl, bN1 (by first | (simp [mvE]; done) | (simp [mvE]; omega)), ht⟩) (fun _ h => by cases h) dX3_mayEnter_66

set_option maxHeartbeats 4000000 in
set_option maxRecDepth 100000 in
theorem k_X3_from (l : Launch) (D : va_G) (q : Nat → Nat) (k : Nat → ClassId) (S Z : Nat → Nat → Nat) (j0 : Nat) (d0 : Nat) (hJ : Jn S) (hj : j0 < 40) (hd : d0 < 2) : Met l yX3_from wsX3_from ({ frames := 0, cells := 0, slots := 0, locals := 0 } : Room) (va_Pc [.ref (q 0), .int (nI j0), .int (nI d0)] (rB D k (wM q k S Z))) (vp_Si (fun r => r = nI (S 7 (2 * j0 + d0)))) 0 0 (fun _ => False) := by
  refine Met.ofW (cc := cX3_from) (maxL := 3) (ret := (some .int)) (by decide) rfl ?_
  intro p e s m args below meth c s₁ B hml hv
  obtain ⟨rfl, hP, hX⟩ := hv
  have hx := B.exec
  have hb := B.bytes
  have hr := B.returns
  have hts := atoms_spec (ws := wsX3_from) B.pre
  have hown : s.vm.findClass RX3 = some m.cls := findClass_of_methodNamed B.named
  have hlocks := B.notSynchronized
  have hf_29 := hts (.fieldLink RX3 29 "FloorGraphModel" "one" "[I") (by decide +kernel)
  have hf_32 := hts (.fieldLink RX3 32 "FloorGraphModel" "two" "[I") (by decide +kernel)
  have hin_X3 : ∀ w ∈ u_ws RX3 TX3 24, w ∈ wsX3_from := by decide +kernel
  have f7 := hJ.2 j0
  have hl := lv_entry ([.ref (q 0), .int (nI j0), .int (nI d0)]) (n := 3) (Nat.le_of_ble_eq_true rfl)
  rw [lg_entry_eq]
  generalize (lg_sl ([.ref (q 0), .int (nI j0), .int (nI d0)]) ++ List.replicate (3 - (lg_sl ([.ref (q 0), .int (nI j0), .int (nI d0)])).length) Slot.unset).toArray = ls at hl ⊢
  have hl : lv_has ls 3 [(0, .ref (q 0)), (1, .int (nI j0)), (2, .int (nI d0))] := hl
  refine lv_iload_n hx hb dX3_from_0 rfl (lv_at hl 2 rfl) ?_
  refine na_if_ne (tgt := 13) hx hb (by omega) dX3_from_1 (by decide) (fun h_1 => ?_) (fun h_1 => ?_)
  · skip
    refine lv_aload_n hx hb dX3_from_13 rfl (lv_at hl 0 rfl) ?_
    refine va_get (D := D) (v := .ref (q 8)) hx hb hts hin_X3 hown hX.1 hP 0 rfl rfl 10 (by decide) hf_32 (fun _ h9 => h9) rfl dX3_from_14 ?_
    refine lv_iload_n hx hb dX3_from_17 rfl (lv_at hl 1 rfl) ?_
    refine na_iald hx hb hX.1 hP 8 0 rfl rfl (by omega) (by decide) dX3_from_18 ?_
    exact W.iret (v := nI (S 8 (2 * j0))) hx hb hr (fun t ht hW => ⟨_, rfl, congrArg nI (by first | (rw [h_1]; rfl) | (rw [show d0 = 1 by omega]; omega)), ht⟩) (fun _ h => by cases h) dX3_from_19
  · skip
    refine lv_aload_n hx hb dX3_from_4 rfl (lv_at hl 0 rfl) ?_
    refine va_get (D := D) (v := .ref (q 7)) hx hb hts hin_X3 hown hX.1 hP 0 rfl rfl 9 (by decide) hf_29 (fun _ h9 => h9) rfl dX3_from_5 ?_
    refine lv_iload_n hx hb dX3_from_8 rfl (lv_at hl 1 rfl) ?_
    refine na_iald hx hb hX.1 hP 7 0 rfl rfl (by omega) (by decide) dX3_from_9 ?_
    refine lv_goto (tgt := 19) hx hb dX3_from_10 (by decide) ?_
    exact W.iret (v := nI (S 7 (2 * j0))) hx hb hr (fun t ht hW => ⟨_, rfl, congrArg nI (by first | (rw [h_1]; rfl) | (rw [show d0 = 1 by omega]; omega)), ht⟩) (fun _ h => by cases h) dX3_from_19

set_option maxHeartbeats 4000000 in
set_option maxRecDepth 100000 in
theorem k_X3_to (l : Launch) (D : va_G) (q : Nat → Nat) (k : Nat → ClassId) (S Z : Nat → Nat → Nat) (j0 : Nat) (d0 : Nat) (hJ : Jn S) (hj : j0 < 40) (hd : d0 < 2) : Met l yX3_to wsX3_to ({ frames := 0, cells := 0, slots := 0, locals := 0 } : Room) (va_Pc [.ref (q 0), .int (nI j0), .int (nI d0)] (rB D k (wM q k S Z))) (vp_Si (fun r => r = nI (S 8 (2 * j0 + d0)))) 0 0 (fun _ => False) := by
  refine Met.ofW (cc := cX3_to) (maxL := 3) (ret := (some .int)) (by decide) rfl ?_
  intro p e s m args below meth c s₁ B hml hv
  obtain ⟨rfl, hP, hX⟩ := hv
  have hx := B.exec
  have hb := B.bytes
  have hr := B.returns
  have hts := atoms_spec (ws := wsX3_to) B.pre
  have hown : s.vm.findClass RX3 = some m.cls := findClass_of_methodNamed B.named
  have hlocks := B.notSynchronized
  have hf_29 := hts (.fieldLink RX3 29 "FloorGraphModel" "one" "[I") (by decide +kernel)
  have hf_32 := hts (.fieldLink RX3 32 "FloorGraphModel" "two" "[I") (by decide +kernel)
  have hin_X3 : ∀ w ∈ u_ws RX3 TX3 24, w ∈ wsX3_to := by decide +kernel
  have f7 := hJ.2 j0
  have hl := lv_entry ([.ref (q 0), .int (nI j0), .int (nI d0)]) (n := 3) (Nat.le_of_ble_eq_true rfl)
  rw [lg_entry_eq]
  generalize (lg_sl ([.ref (q 0), .int (nI j0), .int (nI d0)]) ++ List.replicate (3 - (lg_sl ([.ref (q 0), .int (nI j0), .int (nI d0)])).length) Slot.unset).toArray = ls at hl ⊢
  have hl : lv_has ls 3 [(0, .ref (q 0)), (1, .int (nI j0)), (2, .int (nI d0))] := hl
  refine lv_iload_n hx hb dX3_to_0 rfl (lv_at hl 2 rfl) ?_
  refine na_if_ne (tgt := 13) hx hb (by omega) dX3_to_1 (by decide) (fun h_1 => ?_) (fun h_1 => ?_)
  · skip
    refine lv_aload_n hx hb dX3_to_13 rfl (lv_at hl 0 rfl) ?_
    refine va_get (D := D) (v := .ref (q 7)) hx hb hts hin_X3 hown hX.1 hP 0 rfl rfl 9 (by decide) hf_29 (fun _ h9 => h9) rfl dX3_to_14 ?_
    refine lv_iload_n hx hb dX3_to_17 rfl (lv_at hl 1 rfl) ?_
    refine na_iald hx hb hX.1 hP 7 0 rfl rfl (by omega) (by decide) dX3_to_18 ?_
    exact W.iret (v := nI (S 7 (2 * j0))) hx hb hr (fun t ht hW => ⟨_, rfl, congrArg nI (by first | (rw [h_1]; rfl) | (rw [show d0 = 1 by omega]; omega)), ht⟩) (fun _ h => by cases h) dX3_to_19
  · skip
    refine lv_aload_n hx hb dX3_to_4 rfl (lv_at hl 0 rfl) ?_
    refine va_get (D := D) (v := .ref (q 8)) hx hb hts hin_X3 hown hX.1 hP 0 rfl rfl 10 (by decide) hf_32 (fun _ h9 => h9) rfl dX3_to_5 ?_
    refine lv_iload_n hx hb dX3_to_8 rfl (lv_at hl 1 rfl) ?_
    refine na_iald hx hb hX.1 hP 8 0 rfl rfl (by omega) (by decide) dX3_to_9 ?_
    refine lv_goto (tgt := 19) hx hb dX3_to_10 (by decide) ?_
    exact W.iret (v := nI (S 8 (2 * j0))) hx hb hr (fun t ht hW => ⟨_, rfl, congrArg nI (by first | (rw [h_1]; rfl) | (rw [show d0 = 1 by omega]; omega)), ht⟩) (fun _ h => by cases h) dX3_to_19

set_option maxHeartbeats 4000000 in
set_option maxRecDepth 100000 in
theorem k_X3_mayGo (l : Launch) (D : va_G) (q : Nat → Nat) (k : Nat → ClassId) (S Z : Nat → Nat → Nat) (b0 : Nat) (j0 : Nat) (d0 : Nat) (h0 : Nat) (hB : Bd S) (hJ : Jn S) (hb0 : b0 < 6) (hj : 2 * j0 + d0 < S 0 1) (hd : d0 < 2) (hh : h0 < 24) : Met l yX3_mayGo wsX3_mayGo ({ frames := 1, cells := 0, slots := 0, locals := 24 } : Room) (va_Pc [.ref (q 0), .int (nI b0), .int (nI j0), .int (nI d0), .int (nI h0)] (rB D k (wM q k S Z))) (vp_Si (fun r => r = nI (bN (opn S (S 11 b0) h0 (2 * j0 + d0))))) 0 0 (fun _ => False) := by
  refine Met.ofW (cc := cX3_mayGo) (maxL := 5) (ret := (some .boolean)) (by decide) rfl ?_
  intro p e s m args below meth c s₁ B hml hv
  obtain ⟨rfl, hP, hX⟩ := hv
  have hx := B.exec
  have hb := B.bytes
  have hr := B.returns
  have hts := atoms_spec (ws := wsX3_mayGo) B.pre
  have hown : s.vm.findClass RX3 = some m.cls := findClass_of_methodNamed B.named
  have hlocks := B.notSynchronized
  have hf_38 := hts (.fieldLink RX3 38 "FloorGraphModel" "bars" "[I") (by decide +kernel)
  have hin_X3 : ∀ w ∈ u_ws RX3 TX3 24, w ∈ wsX3_mayGo := by decide +kernel
  have f0 := hB.1
  have g0 := (hB.2.2.1 (2 * j0)).2
  have g1 := (hB.2.2.1 (2 * j0 + 1)).2
  have f8 := hB.2.2.2.1 (2 * j0 + d0) hj
  have fb := bars_bit (d := d0) g0 g1 hd
  have fd : 2 ^ d0 ≥ 1 := Nat.one_le_two_pow
  have fe : (S 10 (2 * j0) + 2 * S 10 (2 * j0 + 1)) / 2 ^ d0 ≤ S 10 (2 * j0) + 2 * S 10 (2 * j0 + 1) := Nat.div_le_self _ _
  have fg : S 10 (2 * j0 + d0) = if d0 = 0 then S 10 (2 * j0) else S 10 (2 * j0 + 1) := by rcases (show d0 = 0 ∨ d0 = 1 by omega) with rfl | rfl <;> rfl
  rw [← fg] at fb
  have hl := lv_entry ([.ref (q 0), .int (nI b0), .int (nI j0), .int (nI d0), .int (nI h0)]) (n := 5) (Nat.le_of_ble_eq_true rfl)
  rw [lg_entry_eq]
  generalize (lg_sl ([.ref (q 0), .int (nI b0), .int (nI j0), .int (nI d0), .int (nI h0)]) ++ List.replicate (5 - (lg_sl ([.ref (q 0), .int (nI b0), .int (nI j0), .int (nI d0), .int (nI h0)])).length) Slot.unset).toArray = ls at hl ⊢
  have hl : lv_has ls 5 [(0, .ref (q 0)), (1, .int (nI b0)), (2, .int (nI j0)), (3, .int (nI d0)), (4, .int (nI h0))] := hl
  refine lv_aload_n hx hb dX3_mayGo_0 rfl (lv_at hl 0 rfl) ?_
  refine va_get (D := D) (v := .ref (q 10)) hx hb hts hin_X3 hown hX.1 hP 0 rfl rfl 12 (by decide) hf_38 (fun _ h9 => h9) rfl dX3_mayGo_1 ?_
  refine lv_iload_n hx hb dX3_mayGo_4 rfl (lv_at hl 2 rfl) ?_
  refine na_iald hx hb hX.1 hP 10 0 rfl rfl (by omega) (by decide) dX3_mayGo_5 ?_
  refine lv_iload_n hx hb dX3_mayGo_6 rfl (lv_at hl 3 rfl) ?_
  refine na_ishr hx hb (by omega) (by omega) dX3_mayGo_7 ?_
  refine lv_iconst (v := nI 1) hx hb dX3_mayGo_8 (by decide) ?_
  refine na_iand1 hx hb (by omega) dX3_mayGo_9 ?_
  refine na_if_ne (tgt := 33) hx hb (by have := (hB.2.2.1 (2 * j0 + d0)).2; omega) dX3_mayGo_10 (by decide) (fun h_10 => ?_) (fun h_10 => ?_)
  · skip
    refine lv_iconst (v := nI 0) hx hb dX3_mayGo_33 (by decide) ?_
    exact W.zret (v := nI 0) hx hb hr (nar_b _ (by first | decide | omega | exact bN_le _)) (fun t ht hW => ⟨_, rfl, bN0 (by first | (rw [opn_def, bN_zero h_26]; simp; done) | (rw [opn_def]; simp; omega)), ht⟩) (fun _ h => by cases h) dX3_mayGo_34
  · skip
    refine lv_aload_n hx hb dX3_mayGo_13 rfl (lv_at hl 0 rfl) ?_
    refine lv_iload_n hx hb dX3_mayGo_14 rfl (lv_at hl 1 rfl) ?_
    refine lv_aload_n hx hb dX3_mayGo_15 rfl (lv_at hl 0 rfl) ?_
    refine lv_iload_n hx hb dX3_mayGo_16 rfl (lv_at hl 2 rfl) ?_
    refine lv_iload_n hx hb dX3_mayGo_17 rfl (lv_at hl 3 rfl) ?_
    refine rd_V (As := [.int (nI j0), .int (nI d0)]) (rest := [.int (nI b0), .ref (q 0)]) ⟨hx, hb, hml, hown, hts⟩ (k_X3_to l D q k S Z j0 d0 hJ (by omega) hd) (cwV 2 hts gX3_mayGo_X3_to rfl rfl rfl (by decide +kernel) ⟨by decide, by decide⟩) hX hP (q0 := 0) rfl rfl rfl hl.1 rfl (Nat.le_of_ble_eq_true rfl) dX3_mayGo_18 ⟨Nat.zero_le _, Nat.zero_le _⟩ ?_
    refine lv_iload hx hb dX3_mayGo_21 (lv_at hl 4 rfl) ?_
    refine rd_V (As := [.int (nI b0), .int (nI (S 8 (2 * j0 + d0))), .int (nI h0)]) (rest := []) ⟨hx, hb, hml, hown, hts⟩ (k_X3_mayEnter l D q k S Z b0 (S 8 (2 * j0 + d0)) h0 hB hb0 (by omega) hh) (cwV 3 hts gX3_mayGo_X3_mayEnter rfl rfl rfl (by decide +kernel) ⟨by decide, by decide⟩) hX hP (q0 := 0) rfl rfl rfl hl.1 rfl (Nat.le_of_ble_eq_true rfl) dX3_mayGo_23 ⟨Nat.zero_le _, Nat.zero_le _⟩ ?_
    refine na_if_eq (tgt := 33) hx hb (by have := bN_le (mvE S (S 11 b0) h0 (S 8 (2 * j0 + d0))); omega) dX3_mayGo_26 (by decide) (fun h_26 => ?_) (fun h_26 => ?_)
    · skip
      refine lv_iconst (v := nI 0) hx hb dX3_mayGo_33 (by decide) ?_
      exact W.zret (v := nI 0) hx hb hr (nar_b _ (by first | decide | omega | exact bN_le _)) (fun t ht hW => ⟨_, rfl, bN0 (by first | (rw [opn_def, bN_zero h_26]; simp; done) | (rw [opn_def]; simp; omega)), ht⟩) (fun _ h => by cases h) dX3_mayGo_34
    · skip
      refine lv_iconst (v := nI 1) hx hb dX3_mayGo_29 (by decide) ?_
      refine lv_goto (tgt := 34) hx hb dX3_mayGo_30 (by decide) ?_
      exact W.zret (v := nI 1) hx hb hr (nar_b _ (by first | decide | omega | exact bN_le _)) (fun t ht hW => ⟨_, rfl, bN1 (by rw [opn_def, bN_pos h_26]; simp; omega), ht⟩) (fun _ h => by cases h) dX3_mayGo_34
end
section
set_option maxHeartbeats 4000000 in
set_option maxRecDepth 100000 in
theorem k_X3_through (l : Launch) (D : va_G) (q : Nat → Nat) (k : Nat → ClassId) (S Z : Nat → Nat → Nat) (b0 : Nat) (j0 : Nat) (d0 : Nat) (h0 : Nat) (hB : Bd S) (hJ : Jn S) (hR : Rb (Z 1)) (hb0 : b0 < 6) (hj : 2 * j0 + d0 < S 0 1) (hd : d0 < 2) (hh : h0 < 24) : Met l yX3_through wsX3_through ({ frames := 2, cells := 0, slots := 0, locals := 48 } : Room) (va_Pc [.ref (q 0), .int (nI b0), .int (nI j0), .int (nI d0), .int (nI h0)] (rB D k (wM q k S Z))) (vp_Si (fun r => r = rI (sBh S (opn S (S 11 b0) h0) (Z 1) (2 * j0 + d0)))) 0 0 (fun _ => False) := by
  refine Met.ofW (cc := cX3_through) (maxL := 5) (ret := (some .int)) (by decide) rfl ?_
  intro p e s m args below meth c s₁ B hml hv
  obtain ⟨rfl, hP, hX⟩ := hv
  have hx := B.exec
  have hb := B.bytes
  have hr := B.returns
  have hts := atoms_spec (ws := wsX3_through) B.pre
  have hown : s.vm.findClass RX3 = some m.cls := findClass_of_methodNamed B.named
  have hlocks := B.notSynchronized
  have hf_13 := hts (.fieldLink RX3 13 "FloorGraphModel" "length" "[I") (by decide +kernel)
  have hf_35 := hts (.fieldLink RX3 35 "FloorGraphModel" "turning" "[I") (by decide +kernel)
  have hf_50 := hts (.fieldLink RX3 50 "FloorGraphModel" "reached" "[I") (by decide +kernel)
  have hin_X3 : ∀ w ∈ u_ws RX3 TX3 24, w ∈ wsX3_through := by decide +kernel
  have f0 := hB.1
  have f7 := hB.2.2.2.1 (2 * j0 + d0) hj
  have fr := hR (S 7 (2 * j0 + d0))
  have f9 := (hB.2.2.1 (2 * j0 + d0)).1
  have f2 := hB.2.1 (S 8 (2 * j0 + d0) / 2)
  have ft := hJ.nine j0 d0 hd
  have fo := bN_le (opn S (S 11 b0) h0 (2 * j0 + d0))
  have hl := lv_entry ([.ref (q 0), .int (nI b0), .int (nI j0), .int (nI d0), .int (nI h0)]) (n := 5) (Nat.le_of_ble_eq_true rfl)
  rw [lg_entry_eq]
  generalize (lg_sl ([.ref (q 0), .int (nI b0), .int (nI j0), .int (nI d0), .int (nI h0)]) ++ List.replicate (5 - (lg_sl ([.ref (q 0), .int (nI b0), .int (nI j0), .int (nI d0), .int (nI h0)])).length) Slot.unset).toArray = ls at hl ⊢
  have hl : lv_has ls 5 [(0, .ref (q 0)), (1, .int (nI b0)), (2, .int (nI j0)), (3, .int (nI d0)), (4, .int (nI h0))] := hl
  refine lv_aload_n hx hb dX3_through_0 rfl (lv_at hl 0 rfl) ?_
  refine va_get (D := D) (v := .ref (q 14)) hx hb hts hin_X3 hown hX.1 hP 0 rfl rfl 20 (by decide) hf_50 (fun _ h9 => h9) rfl dX3_through_1 ?_
  refine lv_aload_n hx hb dX3_through_4 rfl (lv_at hl 0 rfl) ?_
  refine lv_iload_n hx hb dX3_through_5 rfl (lv_at hl 2 rfl) ?_
  refine lv_iload_n hx hb dX3_through_6 rfl (lv_at hl 3 rfl) ?_
  refine rd_V (As := [.int (nI j0), .int (nI d0)]) (rest := [.ref (q 14)]) ⟨hx, hb, hml, hown, hts⟩ (k_X3_from l D q k S Z j0 d0 hJ (by omega) hd) (cwV 2 hts gX3_through_X3_from rfl rfl rfl (by decide +kernel) ⟨by decide, by decide⟩) hX hP (q0 := 0) rfl rfl rfl hl.1 rfl (Nat.le_of_ble_eq_true rfl) dX3_through_7 ⟨Nat.zero_le _, Nat.zero_le _⟩ ?_
  refine na_iald hx hb hX.1 hP 14 0 rfl rfl (by omega) (by decide) dX3_through_10 ?_
  refine lv_iconst (v := pI 0) hx hb dX3_through_11 (by decide) ?_
  refine nz_icmp_eq (tgt := 27) hx hb (by omega) dX3_through_12 (by decide) (fun h_12 => ?_) (fun h_12 => ?_)
  · skip
    refine lv_iconst (v := pI 0) hx hb dX3_through_27 (by decide) ?_
    exact W.iret (v := pI 0) hx hb hr (fun t ht hW => ⟨_, rfl, by rw [sBh_none (sAt_none (by first | exact fun q => q.2 h_12 | exact fun q => bN_no h_24 q.1))]; exact rI_none.symm, ht⟩) (fun _ h => by cases h) dX3_through_28
  · skip
    refine lv_aload_n hx hb dX3_through_15 rfl (lv_at hl 0 rfl) ?_
    refine lv_iload_n hx hb dX3_through_16 rfl (lv_at hl 1 rfl) ?_
    refine lv_iload_n hx hb dX3_through_17 rfl (lv_at hl 2 rfl) ?_
    refine lv_iload_n hx hb dX3_through_18 rfl (lv_at hl 3 rfl) ?_
    refine lv_iload hx hb dX3_through_19 (lv_at hl 4 rfl) ?_
    refine rd_V (As := [.int (nI b0), .int (nI j0), .int (nI d0), .int (nI h0)]) (rest := []) ⟨hx, hb, hml, hown, hts⟩ (k_X3_mayGo l D q k S Z b0 j0 d0 h0 hB hJ hb0 hj hd hh) (cwV 4 hts gX3_through_X3_mayGo rfl rfl rfl (by decide +kernel) ⟨by decide, by decide⟩) hX hP (q0 := 0) rfl rfl rfl hl.1 rfl (Nat.le_of_ble_eq_true rfl) dX3_through_21 ⟨Nat.zero_le _, Nat.zero_le _⟩ ?_
    refine na_if_ne (tgt := 29) hx hb (by omega) dX3_through_24 (by decide) (fun h_24 => ?_) (fun h_24 => ?_)
    · skip
      refine lv_aload_n hx hb dX3_through_29 rfl (lv_at hl 0 rfl) ?_
      refine va_get (D := D) (v := .ref (q 14)) hx hb hts hin_X3 hown hX.1 hP 0 rfl rfl 20 (by decide) hf_50 (fun _ h9 => h9) rfl dX3_through_30 ?_
      refine lv_aload_n hx hb dX3_through_33 rfl (lv_at hl 0 rfl) ?_
      refine lv_iload_n hx hb dX3_through_34 rfl (lv_at hl 2 rfl) ?_
      refine lv_iload_n hx hb dX3_through_35 rfl (lv_at hl 3 rfl) ?_
      refine rd_V (As := [.int (nI j0), .int (nI d0)]) (rest := [.ref (q 14)]) ⟨hx, hb, hml, hown, hts⟩ (k_X3_from l D q k S Z j0 d0 hJ (by omega) hd) (cwV 2 hts gX3_through_X3_from rfl rfl rfl (by decide +kernel) ⟨by decide, by decide⟩) hX hP (q0 := 0) rfl rfl rfl hl.1 rfl (Nat.le_of_ble_eq_true rfl) dX3_through_36 ⟨Nat.zero_le _, Nat.zero_le _⟩ ?_
      refine na_iald hx hb hX.1 hP 14 0 rfl rfl (by omega) (by decide) dX3_through_39 ?_
      refine na_as (y := nI (Z 1 (S 7 (2 * j0 + d0)))) (rI_some h_12) ?_
      refine lv_aload_n hx hb dX3_through_40 rfl (lv_at hl 0 rfl) ?_
      refine va_get (D := D) (v := .ref (q 9)) hx hb hts hin_X3 hown hX.1 hP 0 rfl rfl 11 (by decide) hf_35 (fun _ h9 => h9) rfl dX3_through_41 ?_
      refine lv_iload_n hx hb dX3_through_44 rfl (lv_at hl 2 rfl) ?_
      refine na_iald hx hb hX.1 hP 9 0 rfl rfl (by omega) (by decide) dX3_through_45 ?_
      refine na_iadd hx hb dX3_through_46 ?_
      refine lv_aload_n hx hb dX3_through_47 rfl (lv_at hl 0 rfl) ?_
      refine va_get (D := D) (v := .ref (q 2)) hx hb hts hin_X3 hown hX.1 hP 0 rfl rfl 3 (by decide) hf_13 (fun _ h9 => h9) rfl dX3_through_48 ?_
      refine lv_aload_n hx hb dX3_through_51 rfl (lv_at hl 0 rfl) ?_
      refine lv_iload_n hx hb dX3_through_52 rfl (lv_at hl 2 rfl) ?_
      refine lv_iload_n hx hb dX3_through_53 rfl (lv_at hl 3 rfl) ?_
      refine rd_V (As := [.int (nI j0), .int (nI d0)]) (rest := [.ref (q 2), .int (nI ((Z 1 (S 7 (2 * j0 + d0))) + (S 9 (2 * j0))))]) ⟨hx, hb, hml, hown, hts⟩ (k_X3_to l D q k S Z j0 d0 hJ (by omega) hd) (cwV 2 hts gX3_through_X3_to rfl rfl rfl (by decide +kernel) ⟨by decide, by decide⟩) hX hP (q0 := 0) rfl rfl rfl hl.1 rfl (Nat.le_of_ble_eq_true rfl) dX3_through_54 ⟨Nat.zero_le _, Nat.zero_le _⟩ ?_
      refine lv_iconst (v := nI 2) hx hb dX3_through_57 (by decide) ?_
      refine na_idiv2 hx hb (by omega) dX3_through_58 ?_
      refine na_iald hx hb hX.1 hP 2 0 rfl rfl (by omega) (by decide) dX3_through_59 ?_
      refine na_iadd hx hb dX3_through_60 ?_
      exact W.iret (v := nI (((Z 1 (S 7 (2 * j0 + d0))) + (S 9 (2 * j0))) + (S 2 ((S 8 (2 * j0 + d0)) / 2)))) hx hb hr (fun t ht hW => ⟨_, rfl, by rw [sBh_some (by rw [sAt_some (bN_pos h_24) h_12]; omega), sAt_some (bN_pos h_24) h_12, rI_some (by omega), ft], ht⟩) (fun _ h => by cases h) dX3_through_61
    · skip
      refine lv_iconst (v := pI 0) hx hb dX3_through_27 (by decide) ?_
      exact W.iret (v := pI 0) hx hb hr (fun t ht hW => ⟨_, rfl, by rw [sBh_none (sAt_none (by first | exact fun q => q.2 h_12 | exact fun q => bN_no h_24 q.1))]; exact rI_none.symm, ht⟩) (fun _ h => by cases h) dX3_through_28

set_option maxHeartbeats 4000000 in
set_option maxRecDepth 100000 in
theorem k_X3_secondsTo (l : Launch) (D : va_G) (q : Nat → Nat) (k : Nat → ClassId) (S Z : Nat → Nat → Nat) (b0 : Nat) (a0 : Nat) (p0 : Nat) (h0 : Nat) (hB : Bd S) (hJ : Jn S) (hR : Rb (Z 1)) (hb0 : b0 < 6) (ha : a0 < 20) (hp : p0 < 20) (hh : h0 < 24) : Met l yX3_secondsTo wsX3_secondsTo ({ frames := 2, cells := 0, slots := 0, locals := 48 } : Room) (va_Pc [.ref (q 0), .int (nI b0), .int (nI a0), .int (nI p0), .int (nI h0)] (rB D k (wM q k S Z))) (vp_Si (fun r => r = rI (sTo S (opn S (S 11 b0) h0) (Z 1) a0 p0))) 0 0 (fun _ => False) := by
  refine Met.ofW (cc := cX3_secondsTo) (maxL := 9) (ret := (some .int)) (by decide) rfl ?_
  intro p e s m args below meth c s₁ B hml hv
  obtain ⟨rfl, hP, hX⟩ := hv
  have hx := B.exec
  have hb := B.bytes
  have hr := B.returns
  have hts := atoms_spec (ws := wsX3_secondsTo) B.pre
  have hown : s.vm.findClass RX3 = some m.cls := findClass_of_methodNamed B.named
  have hlocks := B.notSynchronized
  have hf_35 := hts (.fieldLink RX3 35 "FloorGraphModel" "turning" "[I") (by decide +kernel)
  have hf_50 := hts (.fieldLink RX3 50 "FloorGraphModel" "reached" "[I") (by decide +kernel)
  have hf_73 := hts (.fieldLink RX3 73 "FloorGraphModel" "joins" "I") (by decide +kernel)
  have hin_X3 : ∀ w ∈ u_ws RX3 TX3 24, w ∈ wsX3_secondsTo := by decide +kernel
  have f0 := hB.1
  have fj := hJ.1
  have hl := lv_entry ([.ref (q 0), .int (nI b0), .int (nI a0), .int (nI p0), .int (nI h0)]) (n := 9) (Nat.le_of_ble_eq_true rfl)
  rw [lg_entry_eq]
  generalize (lg_sl ([.ref (q 0), .int (nI b0), .int (nI a0), .int (nI p0), .int (nI h0)]) ++ List.replicate (9 - (lg_sl ([.ref (q 0), .int (nI b0), .int (nI a0), .int (nI p0), .int (nI h0)])).length) Slot.unset).toArray = ls at hl ⊢
  have hl : lv_has ls 9 [(0, .ref (q 0)), (1, .int (nI b0)), (2, .int (nI a0)), (3, .int (nI p0)), (4, .int (nI h0))] := hl
  refine lv_iload_n hx hb dX3_secondsTo_0 rfl (lv_at hl 3 rfl) ?_
  refine lv_iload_n hx hb dX3_secondsTo_1 rfl (lv_at hl 2 rfl) ?_
  refine na_icmp_ne (tgt := 7) hx hb (by omega) (by omega) dX3_secondsTo_2 (by decide) (fun h_2 => ?_) (fun h_2 => ?_)
  · skip
    refine lv_iconst (v := pI 0) hx hb dX3_secondsTo_7 (by decide) ?_
    refine na_as (y := rI 1000000) rI_none.symm ?_
    refine lv_istore (lv' := [(5, .int (rI 1000000)), (0, .ref (q 0)), (1, .int (nI b0)), (2, .int (nI a0)), (3, .int (nI p0)), (4, .int (nI h0))]) hx hb dX3_secondsTo_8 hl (by decide) rfl (fun ls hl => ?_)
    refine lv_iconst (v := nI 0) hx hb dX3_secondsTo_10 (by decide) ?_
    refine lv_istore (lv' := [(6, .int (nI 0)), (5, .int (rI 1000000)), (0, .ref (q 0)), (1, .int (nI b0)), (2, .int (nI a0)), (3, .int (nI p0)), (4, .int (nI h0))]) hx hb dX3_secondsTo_11 hl (by decide) rfl (fun ls hl => ?_)
    have L13 : ∀ (n13 : Nat) (i : Nat) (x : Nat), (S 0 1 / 2 < i + n13) → (h1 : 2 * i ≤ S 0 1) → (h3 : (lpB S (opn S (S 11 b0) h0) (Z 1) p0 (2 * i)).2 = x) → ∀ (ls : Array Slot), lv_has ls 9 [(6, .int (nI i)), (5, .int (rI x)), (0, .ref (q 0)), (1, .int (nI b0)), (2, .int (nI a0)), (3, .int (nI p0)), (4, .int (nI h0))] → W p l e (headSpec wsX3_secondsTo ({ frames := 2, cells := 0, slots := 0, locals := 48 } : Room)).room s m [.ref (q 0), .int (nI b0), .int (nI a0), .int (nI p0), .int (nI h0)].toArray below meth c s.heap [] 0 0 (MQ below (vp_Si (fun r => r = rI (sTo S (opn S (S 11 b0) h0) (Z 1) a0 p0))) [.ref (q 0), .int (nI b0), .int (nI a0), .int (nI p0), .int (nI h0)].toArray s 0 0 (fun _ => False)) (F0 m 13 ls []) := by
      intro n13
      induction n13 with
      | zero =>
        intro i x hfuel13 h1 h3 ls hl
        exact absurd hfuel13 (by omega)
      | succ n13 ih13 =>
        intro i x hfuel13 h1 h3 ls hl
        refine lv_iload hx hb dX3_secondsTo_13 (lv_at hl 0 rfl) ?_
        refine lv_aload_n hx hb dX3_secondsTo_15 rfl (lv_at hl 2 rfl) ?_
        refine va_get (D := D) (v := .int (nI (S 0 1 / 2))) hx hb hts hin_X3 hown hX.1 hP 0 rfl rfl 8 (by decide) hf_73 (fun _ h9 => h9) rfl dX3_secondsTo_16 ?_
        refine na_icmp_ge (tgt := 136) hx hb (by omega) (by omega) dX3_secondsTo_19 (by decide) (fun h_19 => ?_) (fun h_19 => ?_)
        · skip
          refine lv_iload hx hb dX3_secondsTo_136 (lv_at hl 1 rfl) ?_
          exact W.iret (v := rI x) hx hb hr (fun t ht hW => ⟨_, rfl, by rw [sTo, if_neg (fun q => h_2 q.symm), ← h3, show 2 * i = S 0 1 by omega], ht⟩) (fun _ h => by cases h) dX3_secondsTo_138
        · skip
          refine lv_iconst (v := nI 0) hx hb dX3_secondsTo_22 (by decide) ?_
          refine lv_istore (lv' := [(7, .int (nI 0)), (6, .int (nI i)), (5, .int (rI x)), (0, .ref (q 0)), (1, .int (nI b0)), (2, .int (nI a0)), (3, .int (nI p0)), (4, .int (nI h0))]) hx hb dX3_secondsTo_23 hl (by decide) rfl (fun ls hl => ?_)
          have L25 : ∀ (n25 : Nat) (d : Nat) (y : Nat), (2 < d + n25) → (h4 : d ≤ 2) → (h5 : (lpB S (opn S (S 11 b0) h0) (Z 1) p0 (2 * i + d)).2 = y) → ∀ (ls : Array Slot), lv_has ls 9 [(7, .int (nI d)), (6, .int (nI i)), (5, .int (rI y)), (0, .ref (q 0)), (1, .int (nI b0)), (2, .int (nI a0)), (3, .int (nI p0)), (4, .int (nI h0))] → W p l e (headSpec wsX3_secondsTo ({ frames := 2, cells := 0, slots := 0, locals := 48 } : Room)).room s m [.ref (q 0), .int (nI b0), .int (nI a0), .int (nI p0), .int (nI h0)].toArray below meth c s.heap [] 0 0 (MQ below (vp_Si (fun r => r = rI (sTo S (opn S (S 11 b0) h0) (Z 1) a0 p0))) [.ref (q 0), .int (nI b0), .int (nI a0), .int (nI p0), .int (nI h0)].toArray s 0 0 (fun _ => False)) (F0 m 25 ls []) := by
            intro n25
            induction n25 with
            | zero =>
              intro d y hfuel25 h4 h5 ls hl
              exact absurd hfuel25 (by omega)
            | succ n25 ih25 =>
              intro d y hfuel25 h4 h5 ls hl
              have f3 := (lpB_ok (S := S) (o := opn S (S 11 b0) h0) (r := Z 1) (t := p0) (2 * i + d)).2.1
              rw [h5] at f3
              refine lv_iload hx hb dX3_secondsTo_25 (lv_at hl 0 rfl) ?_
              refine lv_iconst (v := nI 2) hx hb dX3_secondsTo_27 (by decide) ?_
              refine na_icmp_ge (tgt := 130) hx hb (by omega) (by omega) dX3_secondsTo_28 (by decide) (fun h_28 => ?_) (fun h_28 => ?_)
              · skip
                refine lv_iinc (v := nI (i + 1)) (lv' := [(6, .int (nI (i + 1))), (7, .int (nI d)), (5, .int (rI y)), (0, .ref (q 0)), (1, .int (nI b0)), (2, .int (nI a0)), (3, .int (nI p0)), (4, .int (nI h0))]) hx hb dX3_secondsTo_130 hl (k := 1) rfl (nI_add _ 1) (by decide) rfl (fun ls hl => ?_)
                refine lv_goto (tgt := 13) hx hb dX3_secondsTo_133 (by decide) ?_
                exact ih13 (i + 1) y (by omega) (by omega) (by rw [show 2 * (i + 1) = 2 * i + d by omega]; exact h5) ls (lv_sub hl [0, 2, 3, 4, 5, 6, 7] rfl)
              · skip
                have hj : 2 * i + d < S 0 1 := by omega
                have f7 := hB.2.2.2.1 (2 * i + d) hj
                have fr := hR (S 7 (2 * i + d))
                have f9 := (hB.2.2.1 (2 * i + d)).1
                have ft := hJ.nine i d h_28
                have fo := bN_le (opn S (S 11 b0) h0 (2 * i + d))
                refine lv_aload_n hx hb dX3_secondsTo_31 rfl (lv_at hl 3 rfl) ?_
                refine lv_iload hx hb dX3_secondsTo_32 (lv_at hl 1 rfl) ?_
                refine lv_iload hx hb dX3_secondsTo_34 (lv_at hl 0 rfl) ?_
                refine rd_V (As := [.int (nI i), .int (nI d)]) (rest := []) ⟨hx, hb, hml, hown, hts⟩ (k_X3_to l D q k S Z i d hJ (by omega) h_28) (cwV 2 hts gX3_secondsTo_X3_to rfl rfl rfl (by decide +kernel) ⟨by decide, by decide⟩) hX hP (q0 := 0) rfl rfl rfl hl.1 rfl (Nat.le_of_ble_eq_true rfl) dX3_secondsTo_36 ⟨Nat.zero_le _, Nat.zero_le _⟩ ?_
                refine lv_iconst (v := nI 2) hx hb dX3_secondsTo_39 (by decide) ?_
                refine na_idiv2 hx hb (by omega) dX3_secondsTo_40 ?_
                refine lv_iload_n hx hb dX3_secondsTo_41 rfl (lv_at hl 6 rfl) ?_
                refine na_icmp_ne (tgt := 124) hx hb (by omega) (by omega) dX3_secondsTo_42 (by decide) (fun h_42 => ?_) (fun h_42 => ?_)
                · skip
                  refine lv_iinc (v := nI (d + 1)) (lv' := [(7, .int (nI (d + 1))), (6, .int (nI i)), (5, .int (rI y)), (0, .ref (q 0)), (1, .int (nI b0)), (2, .int (nI a0)), (3, .int (nI p0)), (4, .int (nI h0))]) hx hb dX3_secondsTo_124 hl (k := 0) rfl (nI_add _ 1) (by decide) rfl (fun ls hl => ?_)
                  refine lv_goto (tgt := 25) hx hb dX3_secondsTo_127 (by decide) ?_
                  exact ih25 (d + 1) y (by omega) (by omega) (by rw [show 2 * i + (d + 1) = 2 * i + d + 1 from rfl]; first | exact lpB2_n h5 (fun q => h_42 q.1) | exact lpB2_n h5 (by rw [sAt_none (fun q => q.2 h_59)]; omega) | exact lpB2_n h5 (by rw [sAt_none (fun q => bN_no h_73 q.1)]; omega) | exact lpB2_y h5 h_42 (by rw [sAt_some (bN_pos h_73) h_59]; omega) (by rw [sAt_some (bN_pos h_73) h_59, ft]) | exact lpB2_n h5 (by rw [sAt_some (bN_pos h_73) h_59]; omega)) ls hl
                · skip
                  refine lv_aload_n hx hb dX3_secondsTo_45 rfl (lv_at hl 3 rfl) ?_
                  refine va_get (D := D) (v := .ref (q 14)) hx hb hts hin_X3 hown hX.1 hP 0 rfl rfl 20 (by decide) hf_50 (fun _ h9 => h9) rfl dX3_secondsTo_46 ?_
                  refine lv_aload_n hx hb dX3_secondsTo_49 rfl (lv_at hl 3 rfl) ?_
                  refine lv_iload hx hb dX3_secondsTo_50 (lv_at hl 1 rfl) ?_
                  refine lv_iload hx hb dX3_secondsTo_52 (lv_at hl 0 rfl) ?_
                  refine rd_V (As := [.int (nI i), .int (nI d)]) (rest := [.ref (q 14)]) ⟨hx, hb, hml, hown, hts⟩ (k_X3_from l D q k S Z i d hJ (by omega) h_28) (cwV 2 hts gX3_secondsTo_X3_from rfl rfl rfl (by decide +kernel) ⟨by decide, by decide⟩) hX hP (q0 := 0) rfl rfl rfl hl.1 rfl (Nat.le_of_ble_eq_true rfl) dX3_secondsTo_54 ⟨Nat.zero_le _, Nat.zero_le _⟩ ?_
                  refine na_iald hx hb hX.1 hP 14 0 rfl rfl (by omega) (by decide) dX3_secondsTo_57 ?_
                  refine lv_iconst (v := pI 0) hx hb dX3_secondsTo_58 (by decide) ?_
                  refine nz_icmp_eq (tgt := 124) hx hb (by omega) dX3_secondsTo_59 (by decide) (fun h_59 => ?_) (fun h_59 => ?_)
                  · skip
                    refine lv_iinc (v := nI (d + 1)) (lv' := [(7, .int (nI (d + 1))), (6, .int (nI i)), (5, .int (rI y)), (0, .ref (q 0)), (1, .int (nI b0)), (2, .int (nI a0)), (3, .int (nI p0)), (4, .int (nI h0))]) hx hb dX3_secondsTo_124 hl (k := 0) rfl (nI_add _ 1) (by decide) rfl (fun ls hl => ?_)
                    refine lv_goto (tgt := 25) hx hb dX3_secondsTo_127 (by decide) ?_
                    exact ih25 (d + 1) y (by omega) (by omega) (by rw [show 2 * i + (d + 1) = 2 * i + d + 1 from rfl]; first | exact lpB2_n h5 (fun q => h_42 q.1) | exact lpB2_n h5 (by rw [sAt_none (fun q => q.2 h_59)]; omega) | exact lpB2_n h5 (by rw [sAt_none (fun q => bN_no h_73 q.1)]; omega) | exact lpB2_y h5 h_42 (by rw [sAt_some (bN_pos h_73) h_59]; omega) (by rw [sAt_some (bN_pos h_73) h_59, ft]) | exact lpB2_n h5 (by rw [sAt_some (bN_pos h_73) h_59]; omega)) ls hl
                  · skip
                    refine lv_aload_n hx hb dX3_secondsTo_62 rfl (lv_at hl 3 rfl) ?_
                    refine lv_iload_n hx hb dX3_secondsTo_63 rfl (lv_at hl 4 rfl) ?_
                    refine lv_iload hx hb dX3_secondsTo_64 (lv_at hl 1 rfl) ?_
                    refine lv_iload hx hb dX3_secondsTo_66 (lv_at hl 0 rfl) ?_
                    refine lv_iload hx hb dX3_secondsTo_68 (lv_at hl 7 rfl) ?_
                    refine rd_V (As := [.int (nI b0), .int (nI i), .int (nI d), .int (nI h0)]) (rest := []) ⟨hx, hb, hml, hown, hts⟩ (k_X3_mayGo l D q k S Z b0 i d h0 hB hJ hb0 hj h_28 hh) (cwV 4 hts gX3_secondsTo_X3_mayGo rfl rfl rfl (by decide +kernel) ⟨by decide, by decide⟩) hX hP (q0 := 0) rfl rfl rfl hl.1 rfl (Nat.le_of_ble_eq_true rfl) dX3_secondsTo_70 ⟨Nat.zero_le _, Nat.zero_le _⟩ ?_
                    refine na_if_ne (tgt := 79) hx hb (by omega) dX3_secondsTo_73 (by decide) (fun h_73 => ?_) (fun h_73 => ?_)
                    · skip
                      refine lv_aload_n hx hb dX3_secondsTo_79 rfl (lv_at hl 3 rfl) ?_
                      refine va_get (D := D) (v := .ref (q 14)) hx hb hts hin_X3 hown hX.1 hP 0 rfl rfl 20 (by decide) hf_50 (fun _ h9 => h9) rfl dX3_secondsTo_80 ?_
                      refine lv_aload_n hx hb dX3_secondsTo_83 rfl (lv_at hl 3 rfl) ?_
                      refine lv_iload hx hb dX3_secondsTo_84 (lv_at hl 1 rfl) ?_
                      refine lv_iload hx hb dX3_secondsTo_86 (lv_at hl 0 rfl) ?_
                      refine rd_V (As := [.int (nI i), .int (nI d)]) (rest := [.ref (q 14)]) ⟨hx, hb, hml, hown, hts⟩ (k_X3_from l D q k S Z i d hJ (by omega) h_28) (cwV 2 hts gX3_secondsTo_X3_from rfl rfl rfl (by decide +kernel) ⟨by decide, by decide⟩) hX hP (q0 := 0) rfl rfl rfl hl.1 rfl (Nat.le_of_ble_eq_true rfl) dX3_secondsTo_88 ⟨Nat.zero_le _, Nat.zero_le _⟩ ?_
                      refine na_iald hx hb hX.1 hP 14 0 rfl rfl (by omega) (by decide) dX3_secondsTo_91 ?_
                      refine na_as (y := nI (Z 1 (S 7 (2 * i + d)))) (rI_some h_59) ?_
                      refine lv_aload_n hx hb dX3_secondsTo_92 rfl (lv_at hl 3 rfl) ?_
                      refine va_get (D := D) (v := .ref (q 9)) hx hb hts hin_X3 hown hX.1 hP 0 rfl rfl 11 (by decide) hf_35 (fun _ h9 => h9) rfl dX3_secondsTo_93 ?_
                      refine lv_iload hx hb dX3_secondsTo_96 (lv_at hl 1 rfl) ?_
                      refine na_iald hx hb hX.1 hP 9 0 rfl rfl (by omega) (by decide) dX3_secondsTo_98 ?_
                      refine na_iadd hx hb dX3_secondsTo_99 ?_
                      refine lv_istore (lv' := [(8, .int (nI ((Z 1 (S 7 (2 * i + d))) + (S 9 (2 * i))))), (7, .int (nI d)), (6, .int (nI i)), (5, .int (rI y)), (0, .ref (q 0)), (1, .int (nI b0)), (2, .int (nI a0)), (3, .int (nI p0)), (4, .int (nI h0))]) hx hb dX3_secondsTo_100 hl (by decide) rfl (fun ls hl => ?_)
                      refine lv_iload hx hb dX3_secondsTo_102 (lv_at hl 3 rfl) ?_
                      refine lv_iconst (v := pI 0) hx hb dX3_secondsTo_104 (by decide) ?_
                      refine nz_icmp_eq (tgt := 115) hx hb (by omega) dX3_secondsTo_105 (by decide) (fun h_105 => ?_) (fun h_105 => ?_)
                      · skip
                        refine lv_iload hx hb dX3_secondsTo_115 (lv_at hl 0 rfl) ?_
                        refine lv_goto (tgt := 122) hx hb dX3_secondsTo_117 (by decide) ?_
                        refine na_as (y := rI ((Z 1 (S 7 (2 * i + d))) + (S 9 (2 * i)))) (rI_some (by omega)).symm ?_
                        refine lv_istore (lv' := [(5, .int (rI ((Z 1 (S 7 (2 * i + d))) + (S 9 (2 * i))))), (8, .int (nI ((Z 1 (S 7 (2 * i + d))) + (S 9 (2 * i))))), (7, .int (nI d)), (6, .int (nI i)), (0, .ref (q 0)), (1, .int (nI b0)), (2, .int (nI a0)), (3, .int (nI p0)), (4, .int (nI h0))]) hx hb dX3_secondsTo_122 hl (by decide) rfl (fun ls hl => ?_)
                        refine lv_iinc (v := nI (d + 1)) (lv' := [(7, .int (nI (d + 1))), (5, .int (rI ((Z 1 (S 7 (2 * i + d))) + (S 9 (2 * i))))), (8, .int (nI ((Z 1 (S 7 (2 * i + d))) + (S 9 (2 * i))))), (6, .int (nI i)), (0, .ref (q 0)), (1, .int (nI b0)), (2, .int (nI a0)), (3, .int (nI p0)), (4, .int (nI h0))]) hx hb dX3_secondsTo_124 hl (k := 2) rfl (nI_add _ 1) (by decide) rfl (fun ls hl => ?_)
                        refine lv_goto (tgt := 25) hx hb dX3_secondsTo_127 (by decide) ?_
                        exact ih25 (d + 1) (((Z 1 (S 7 (2 * i + d))) + (S 9 (2 * i)))) (by omega) (by omega) (by rw [show 2 * i + (d + 1) = 2 * i + d + 1 from rfl]; first | exact lpB2_n h5 (fun q => h_42 q.1) | exact lpB2_n h5 (by rw [sAt_none (fun q => q.2 h_59)]; omega) | exact lpB2_n h5 (by rw [sAt_none (fun q => bN_no h_73 q.1)]; omega) | exact lpB2_y h5 h_42 (by rw [sAt_some (bN_pos h_73) h_59]; omega) (by rw [sAt_some (bN_pos h_73) h_59, ft]) | exact lpB2_n h5 (by rw [sAt_some (bN_pos h_73) h_59]; omega)) ls (lv_sub hl [0, 3, 1, 4, 5, 6, 7, 8] rfl)
                      · skip
                        refine lv_iload hx hb dX3_secondsTo_108 (lv_at hl 0 rfl) ?_
                        refine lv_iload hx hb dX3_secondsTo_110 (lv_at hl 3 rfl) ?_
                        refine na_as (y := nI y) (rI_some h_105) ?_
                        refine na_icmp_ge (tgt := 120) hx hb (by omega) (by omega) dX3_secondsTo_112 (by decide) (fun h_112 => ?_) (fun h_112 => ?_)
                        · skip
                          refine lv_iload hx hb dX3_secondsTo_120 (lv_at hl 3 rfl) ?_
                          refine lv_istore (lv' := [(5, .int (rI y)), (8, .int (nI ((Z 1 (S 7 (2 * i + d))) + (S 9 (2 * i))))), (7, .int (nI d)), (6, .int (nI i)), (0, .ref (q 0)), (1, .int (nI b0)), (2, .int (nI a0)), (3, .int (nI p0)), (4, .int (nI h0))]) hx hb dX3_secondsTo_122 hl (by decide) rfl (fun ls hl => ?_)
                          refine lv_iinc (v := nI (d + 1)) (lv' := [(7, .int (nI (d + 1))), (5, .int (rI y)), (8, .int (nI ((Z 1 (S 7 (2 * i + d))) + (S 9 (2 * i))))), (6, .int (nI i)), (0, .ref (q 0)), (1, .int (nI b0)), (2, .int (nI a0)), (3, .int (nI p0)), (4, .int (nI h0))]) hx hb dX3_secondsTo_124 hl (k := 2) rfl (nI_add _ 1) (by decide) rfl (fun ls hl => ?_)
                          refine lv_goto (tgt := 25) hx hb dX3_secondsTo_127 (by decide) ?_
                          exact ih25 (d + 1) y (by omega) (by omega) (by rw [show 2 * i + (d + 1) = 2 * i + d + 1 from rfl]; first | exact lpB2_n h5 (fun q => h_42 q.1) | exact lpB2_n h5 (by rw [sAt_none (fun q => q.2 h_59)]; omega) | exact lpB2_n h5 (by rw [sAt_none (fun q => bN_no h_73 q.1)]; omega) | exact lpB2_y h5 h_42 (by rw [sAt_some (bN_pos h_73) h_59]; omega) (by rw [sAt_some (bN_pos h_73) h_59, ft]) | exact lpB2_n h5 (by rw [sAt_some (bN_pos h_73) h_59]; omega)) ls (lv_sub hl [0, 3, 1, 4, 5, 6, 7, 8] rfl)
                        · skip
                          refine lv_iload hx hb dX3_secondsTo_115 (lv_at hl 0 rfl) ?_
                          refine lv_goto (tgt := 122) hx hb dX3_secondsTo_117 (by decide) ?_
                          refine na_as (y := rI ((Z 1 (S 7 (2 * i + d))) + (S 9 (2 * i)))) (rI_some (by omega)).symm ?_
                          refine lv_istore (lv' := [(5, .int (rI ((Z 1 (S 7 (2 * i + d))) + (S 9 (2 * i))))), (8, .int (nI ((Z 1 (S 7 (2 * i + d))) + (S 9 (2 * i))))), (7, .int (nI d)), (6, .int (nI i)), (0, .ref (q 0)), (1, .int (nI b0)), (2, .int (nI a0)), (3, .int (nI p0)), (4, .int (nI h0))]) hx hb dX3_secondsTo_122 hl (by decide) rfl (fun ls hl => ?_)
                          refine lv_iinc (v := nI (d + 1)) (lv' := [(7, .int (nI (d + 1))), (5, .int (rI ((Z 1 (S 7 (2 * i + d))) + (S 9 (2 * i))))), (8, .int (nI ((Z 1 (S 7 (2 * i + d))) + (S 9 (2 * i))))), (6, .int (nI i)), (0, .ref (q 0)), (1, .int (nI b0)), (2, .int (nI a0)), (3, .int (nI p0)), (4, .int (nI h0))]) hx hb dX3_secondsTo_124 hl (k := 2) rfl (nI_add _ 1) (by decide) rfl (fun ls hl => ?_)
                          refine lv_goto (tgt := 25) hx hb dX3_secondsTo_127 (by decide) ?_
                          exact ih25 (d + 1) (((Z 1 (S 7 (2 * i + d))) + (S 9 (2 * i)))) (by omega) (by omega) (by rw [show 2 * i + (d + 1) = 2 * i + d + 1 from rfl]; first | exact lpB2_n h5 (fun q => h_42 q.1) | exact lpB2_n h5 (by rw [sAt_none (fun q => q.2 h_59)]; omega) | exact lpB2_n h5 (by rw [sAt_none (fun q => bN_no h_73 q.1)]; omega) | exact lpB2_y h5 h_42 (by rw [sAt_some (bN_pos h_73) h_59]; omega) (by rw [sAt_some (bN_pos h_73) h_59, ft]) | exact lpB2_n h5 (by rw [sAt_some (bN_pos h_73) h_59]; omega)) ls (lv_sub hl [0, 3, 1, 4, 5, 6, 7, 8] rfl)
                    · skip
                      refine lv_goto (tgt := 124) hx hb dX3_secondsTo_76 (by decide) ?_
                      refine lv_iinc (v := nI (d + 1)) (lv' := [(7, .int (nI (d + 1))), (6, .int (nI i)), (5, .int (rI y)), (0, .ref (q 0)), (1, .int (nI b0)), (2, .int (nI a0)), (3, .int (nI p0)), (4, .int (nI h0))]) hx hb dX3_secondsTo_124 hl (k := 0) rfl (nI_add _ 1) (by decide) rfl (fun ls hl => ?_)
                      refine lv_goto (tgt := 25) hx hb dX3_secondsTo_127 (by decide) ?_
                      exact ih25 (d + 1) y (by omega) (by omega) (by rw [show 2 * i + (d + 1) = 2 * i + d + 1 from rfl]; first | exact lpB2_n h5 (fun q => h_42 q.1) | exact lpB2_n h5 (by rw [sAt_none (fun q => q.2 h_59)]; omega) | exact lpB2_n h5 (by rw [sAt_none (fun q => bN_no h_73 q.1)]; omega) | exact lpB2_y h5 h_42 (by rw [sAt_some (bN_pos h_73) h_59]; omega) (by rw [sAt_some (bN_pos h_73) h_59, ft]) | exact lpB2_n h5 (by rw [sAt_some (bN_pos h_73) h_59]; omega)) ls hl
          exact L25 3 0 x (by omega) (by omega) h3 ls hl
    exact L13 (S 0 1 + 1) 0 1000000 (by omega) (by omega) rfl ls hl
  · skip
    refine lv_iconst (v := nI 0) hx hb dX3_secondsTo_5 (by decide) ?_
    exact W.iret (v := nI 0) hx hb hr (fun t ht hW => ⟨_, rfl, by rw [sTo, if_pos h_2.symm]; rfl, ht⟩) (fun _ h => by cases h) dX3_secondsTo_6

set_option maxHeartbeats 4000000 in
set_option maxRecDepth 100000 in
theorem k_X3_lastEnd (l : Launch) (D : va_G) (q : Nat → Nat) (k : Nat → ClassId) (S Z : Nat → Nat → Nat) (b0 : Nat) (p0 : Nat) (t0 : Nat) (h0 : Nat) (hB : Bd S) (hJ : Jn S) (hR : Rb (Z 1)) (hb0 : b0 < 6) (hp : p0 < 20) (ht : t0 ≤ 1000000) (hh : h0 < 24) : Met l yX3_lastEnd wsX3_lastEnd ({ frames := 2, cells := 0, slots := 0, locals := 48 } : Room) (va_Pc [.ref (q 0), .int (nI b0), .int (nI p0), .int (nI t0), .int (nI h0)] (rB D k (wM q k S Z))) (vp_Si (fun r => r = pI (atS S (lEn S (opn S (S 11 b0) h0) (Z 1) p0 t0 (S 0 1))))) 0 0 (fun _ => False) := by
  refine Met.ofW (cc := cX3_lastEnd) (maxL := 7) (ret := (some .int)) (by decide) rfl ?_
  intro p e s m args below meth c s₁ B hml hv
  obtain ⟨rfl, hP, hX⟩ := hv
  have hx := B.exec
  have hb := B.bytes
  have hr := B.returns
  have hts := atoms_spec (ws := wsX3_lastEnd) B.pre
  have hown : s.vm.findClass RX3 = some m.cls := findClass_of_methodNamed B.named
  have hlocks := B.notSynchronized
  have hf_35 := hts (.fieldLink RX3 35 "FloorGraphModel" "turning" "[I") (by decide +kernel)
  have hf_50 := hts (.fieldLink RX3 50 "FloorGraphModel" "reached" "[I") (by decide +kernel)
  have hf_73 := hts (.fieldLink RX3 73 "FloorGraphModel" "joins" "I") (by decide +kernel)
  have hin_X3 : ∀ w ∈ u_ws RX3 TX3 24, w ∈ wsX3_lastEnd := by decide +kernel
  have f0 := hB.1
  have fj := hJ.1
  have hl := lv_entry ([.ref (q 0), .int (nI b0), .int (nI p0), .int (nI t0), .int (nI h0)]) (n := 7) (Nat.le_of_ble_eq_true rfl)
  rw [lg_entry_eq]
  generalize (lg_sl ([.ref (q 0), .int (nI b0), .int (nI p0), .int (nI t0), .int (nI h0)]) ++ List.replicate (7 - (lg_sl ([.ref (q 0), .int (nI b0), .int (nI p0), .int (nI t0), .int (nI h0)])).length) Slot.unset).toArray = ls at hl ⊢
  have hl : lv_has ls 7 [(0, .ref (q 0)), (1, .int (nI b0)), (2, .int (nI p0)), (3, .int (nI t0)), (4, .int (nI h0))] := hl
  refine lv_iconst (v := nI 0) hx hb dX3_lastEnd_0 (by decide) ?_
  refine lv_istore (lv' := [(5, .int (nI 0)), (0, .ref (q 0)), (1, .int (nI b0)), (2, .int (nI p0)), (3, .int (nI t0)), (4, .int (nI h0))]) hx hb dX3_lastEnd_1 hl (by decide) rfl (fun ls hl => ?_)
  have L3 : ∀ (n3 : Nat) (i : Nat), (S 0 1 / 2 < i + n3) → (h1 : 2 * i ≤ S 0 1) → (h3 : lEn S (opn S (S 11 b0) h0) (Z 1) p0 t0 (2 * i) = 0) → ∀ (ls : Array Slot), lv_has ls 7 [(5, .int (nI i)), (0, .ref (q 0)), (1, .int (nI b0)), (2, .int (nI p0)), (3, .int (nI t0)), (4, .int (nI h0))] → W p l e (headSpec wsX3_lastEnd ({ frames := 2, cells := 0, slots := 0, locals := 48 } : Room)).room s m [.ref (q 0), .int (nI b0), .int (nI p0), .int (nI t0), .int (nI h0)].toArray below meth c s.heap [] 0 0 (MQ below (vp_Si (fun r => r = pI (atS S (lEn S (opn S (S 11 b0) h0) (Z 1) p0 t0 (S 0 1))))) [.ref (q 0), .int (nI b0), .int (nI p0), .int (nI t0), .int (nI h0)].toArray s 0 0 (fun _ => False)) (F0 m 3 ls []) := by
    intro n3
    induction n3 with
    | zero =>
      intro i hfuel3 h1 h3 ls hl
      exact absurd hfuel3 (by omega)
    | succ n3 ih3 =>
      intro i hfuel3 h1 h3 ls hl
      refine lv_iload hx hb dX3_lastEnd_3 (lv_at hl 0 rfl) ?_
      refine lv_aload_n hx hb dX3_lastEnd_5 rfl (lv_at hl 1 rfl) ?_
      refine va_get (D := D) (v := .int (nI (S 0 1 / 2))) hx hb hts hin_X3 hown hX.1 hP 0 rfl rfl 8 (by decide) hf_73 (fun _ h9 => h9) rfl dX3_lastEnd_6 ?_
      refine na_icmp_ge (tgt := 112) hx hb (by omega) (by omega) dX3_lastEnd_9 (by decide) (fun h_9 => ?_) (fun h_9 => ?_)
      · skip
        refine lv_iconst (v := pI 0) hx hb dX3_lastEnd_112 (by decide) ?_
        exact W.iret (v := pI 0) hx hb hr (fun t ht hW => ⟨_, rfl, by rw [← show 2 * i = S 0 1 by omega, h3]; rfl, ht⟩) (fun _ h => by cases h) dX3_lastEnd_113
      · skip
        refine lv_iconst (v := nI 0) hx hb dX3_lastEnd_12 (by decide) ?_
        refine lv_istore (lv' := [(6, .int (nI 0)), (5, .int (nI i)), (0, .ref (q 0)), (1, .int (nI b0)), (2, .int (nI p0)), (3, .int (nI t0)), (4, .int (nI h0))]) hx hb dX3_lastEnd_13 hl (by decide) rfl (fun ls hl => ?_)
        have L15 : ∀ (n15 : Nat) (d : Nat), (2 < d + n15) → (h4 : d ≤ 2) → (h5 : lEn S (opn S (S 11 b0) h0) (Z 1) p0 t0 (2 * i + d) = 0) → ∀ (ls : Array Slot), lv_has ls 7 [(6, .int (nI d)), (5, .int (nI i)), (0, .ref (q 0)), (1, .int (nI b0)), (2, .int (nI p0)), (3, .int (nI t0)), (4, .int (nI h0))] → W p l e (headSpec wsX3_lastEnd ({ frames := 2, cells := 0, slots := 0, locals := 48 } : Room)).room s m [.ref (q 0), .int (nI b0), .int (nI p0), .int (nI t0), .int (nI h0)].toArray below meth c s.heap [] 0 0 (MQ below (vp_Si (fun r => r = pI (atS S (lEn S (opn S (S 11 b0) h0) (Z 1) p0 t0 (S 0 1))))) [.ref (q 0), .int (nI b0), .int (nI p0), .int (nI t0), .int (nI h0)].toArray s 0 0 (fun _ => False)) (F0 m 15 ls []) := by
          intro n15
          induction n15 with
          | zero =>
            intro d hfuel15 h4 h5 ls hl
            exact absurd hfuel15 (by omega)
          | succ n15 ih15 =>
            intro d hfuel15 h4 h5 ls hl
            refine lv_iload hx hb dX3_lastEnd_15 (lv_at hl 0 rfl) ?_
            refine lv_iconst (v := nI 2) hx hb dX3_lastEnd_17 (by decide) ?_
            refine na_icmp_ge (tgt := 106) hx hb (by omega) (by omega) dX3_lastEnd_18 (by decide) (fun h_18 => ?_) (fun h_18 => ?_)
            · skip
              refine lv_iinc (v := nI (i + 1)) (lv' := [(5, .int (nI (i + 1))), (6, .int (nI d)), (0, .ref (q 0)), (1, .int (nI b0)), (2, .int (nI p0)), (3, .int (nI t0)), (4, .int (nI h0))]) hx hb dX3_lastEnd_106 hl (k := 1) rfl (nI_add _ 1) (by decide) rfl (fun ls hl => ?_)
              refine lv_goto (tgt := 3) hx hb dX3_lastEnd_109 (by decide) ?_
              exact ih3 (i + 1) (by omega) (by omega) (by rw [show 2 * (i + 1) = 2 * i + d by omega]; exact h5) ls (lv_sub hl [0, 2, 3, 4, 5, 6] rfl)
            · skip
              have hj : 2 * i + d < S 0 1 := by omega
              have f7 := hB.2.2.2.1 (2 * i + d) hj
              have fr := hR (S 7 (2 * i + d))
              have f9 := (hB.2.2.1 (2 * i + d)).1
              have ft := hJ.nine i d h_18
              have fo := bN_le (opn S (S 11 b0) h0 (2 * i + d))
              refine lv_aload_n hx hb dX3_lastEnd_21 rfl (lv_at hl 2 rfl) ?_
              refine lv_iload hx hb dX3_lastEnd_22 (lv_at hl 1 rfl) ?_
              refine lv_iload hx hb dX3_lastEnd_24 (lv_at hl 0 rfl) ?_
              refine rd_V (As := [.int (nI i), .int (nI d)]) (rest := []) ⟨hx, hb, hml, hown, hts⟩ (k_X3_to l D q k S Z i d hJ (by omega) h_18) (cwV 2 hts gX3_lastEnd_X3_to rfl rfl rfl (by decide +kernel) ⟨by decide, by decide⟩) hX hP (q0 := 0) rfl rfl rfl hl.1 rfl (Nat.le_of_ble_eq_true rfl) dX3_lastEnd_26 ⟨Nat.zero_le _, Nat.zero_le _⟩ ?_
              refine lv_iconst (v := nI 2) hx hb dX3_lastEnd_29 (by decide) ?_
              refine na_idiv2 hx hb (by omega) dX3_lastEnd_30 ?_
              refine lv_iload_n hx hb dX3_lastEnd_31 rfl (lv_at hl 4 rfl) ?_
              refine na_icmp_ne (tgt := 100) hx hb (by omega) (by omega) dX3_lastEnd_32 (by decide) (fun h_32 => ?_) (fun h_32 => ?_)
              · skip
                refine lv_iinc (v := nI (d + 1)) (lv' := [(6, .int (nI (d + 1))), (5, .int (nI i)), (0, .ref (q 0)), (1, .int (nI b0)), (2, .int (nI p0)), (3, .int (nI t0)), (4, .int (nI h0))]) hx hb dX3_lastEnd_100 hl (k := 0) rfl (nI_add _ 1) (by decide) rfl (fun ls hl => ?_)
                refine lv_goto (tgt := 15) hx hb dX3_lastEnd_103 (by decide) ?_
                exact ih15 (d + 1) (by omega) (by omega) (by rw [show 2 * i + (d + 1) = 2 * i + d + 1 from rfl]; exact ff_s h5 (by simp only [decide_eq_true_eq]; first | exact fun q => h_32 q.1 | exact fun q => q.2.2 (sAt_none (fun z => z.2 h_49)) | exact fun q => q.2.2 (sAt_none (fun z => bN_no h_63 z.1)) | exact fun q => by rw [sAt_some (bN_pos h_63) h_49] at q; omega)) ls hl
              · skip
                refine lv_aload_n hx hb dX3_lastEnd_35 rfl (lv_at hl 2 rfl) ?_
                refine va_get (D := D) (v := .ref (q 14)) hx hb hts hin_X3 hown hX.1 hP 0 rfl rfl 20 (by decide) hf_50 (fun _ h9 => h9) rfl dX3_lastEnd_36 ?_
                refine lv_aload_n hx hb dX3_lastEnd_39 rfl (lv_at hl 2 rfl) ?_
                refine lv_iload hx hb dX3_lastEnd_40 (lv_at hl 1 rfl) ?_
                refine lv_iload hx hb dX3_lastEnd_42 (lv_at hl 0 rfl) ?_
                refine rd_V (As := [.int (nI i), .int (nI d)]) (rest := [.ref (q 14)]) ⟨hx, hb, hml, hown, hts⟩ (k_X3_from l D q k S Z i d hJ (by omega) h_18) (cwV 2 hts gX3_lastEnd_X3_from rfl rfl rfl (by decide +kernel) ⟨by decide, by decide⟩) hX hP (q0 := 0) rfl rfl rfl hl.1 rfl (Nat.le_of_ble_eq_true rfl) dX3_lastEnd_44 ⟨Nat.zero_le _, Nat.zero_le _⟩ ?_
                refine na_iald hx hb hX.1 hP 14 0 rfl rfl (by omega) (by decide) dX3_lastEnd_47 ?_
                refine lv_iconst (v := pI 0) hx hb dX3_lastEnd_48 (by decide) ?_
                refine nz_icmp_eq (tgt := 100) hx hb (by omega) dX3_lastEnd_49 (by decide) (fun h_49 => ?_) (fun h_49 => ?_)
                · skip
                  refine lv_iinc (v := nI (d + 1)) (lv' := [(6, .int (nI (d + 1))), (5, .int (nI i)), (0, .ref (q 0)), (1, .int (nI b0)), (2, .int (nI p0)), (3, .int (nI t0)), (4, .int (nI h0))]) hx hb dX3_lastEnd_100 hl (k := 0) rfl (nI_add _ 1) (by decide) rfl (fun ls hl => ?_)
                  refine lv_goto (tgt := 15) hx hb dX3_lastEnd_103 (by decide) ?_
                  exact ih15 (d + 1) (by omega) (by omega) (by rw [show 2 * i + (d + 1) = 2 * i + d + 1 from rfl]; exact ff_s h5 (by simp only [decide_eq_true_eq]; first | exact fun q => h_32 q.1 | exact fun q => q.2.2 (sAt_none (fun z => z.2 h_49)) | exact fun q => q.2.2 (sAt_none (fun z => bN_no h_63 z.1)) | exact fun q => by rw [sAt_some (bN_pos h_63) h_49] at q; omega)) ls hl
                · skip
                  refine lv_aload_n hx hb dX3_lastEnd_52 rfl (lv_at hl 2 rfl) ?_
                  refine lv_iload_n hx hb dX3_lastEnd_53 rfl (lv_at hl 3 rfl) ?_
                  refine lv_iload hx hb dX3_lastEnd_54 (lv_at hl 1 rfl) ?_
                  refine lv_iload hx hb dX3_lastEnd_56 (lv_at hl 0 rfl) ?_
                  refine lv_iload hx hb dX3_lastEnd_58 (lv_at hl 6 rfl) ?_
                  refine rd_V (As := [.int (nI b0), .int (nI i), .int (nI d), .int (nI h0)]) (rest := []) ⟨hx, hb, hml, hown, hts⟩ (k_X3_mayGo l D q k S Z b0 i d h0 hB hJ hb0 hj h_18 hh) (cwV 4 hts gX3_lastEnd_X3_mayGo rfl rfl rfl (by decide +kernel) ⟨by decide, by decide⟩) hX hP (q0 := 0) rfl rfl rfl hl.1 rfl (Nat.le_of_ble_eq_true rfl) dX3_lastEnd_60 ⟨Nat.zero_le _, Nat.zero_le _⟩ ?_
                  refine na_if_eq (tgt := 100) hx hb (by omega) dX3_lastEnd_63 (by decide) (fun h_63 => ?_) (fun h_63 => ?_)
                  · skip
                    refine lv_iinc (v := nI (d + 1)) (lv' := [(6, .int (nI (d + 1))), (5, .int (nI i)), (0, .ref (q 0)), (1, .int (nI b0)), (2, .int (nI p0)), (3, .int (nI t0)), (4, .int (nI h0))]) hx hb dX3_lastEnd_100 hl (k := 0) rfl (nI_add _ 1) (by decide) rfl (fun ls hl => ?_)
                    refine lv_goto (tgt := 15) hx hb dX3_lastEnd_103 (by decide) ?_
                    exact ih15 (d + 1) (by omega) (by omega) (by rw [show 2 * i + (d + 1) = 2 * i + d + 1 from rfl]; exact ff_s h5 (by simp only [decide_eq_true_eq]; first | exact fun q => h_32 q.1 | exact fun q => q.2.2 (sAt_none (fun z => z.2 h_49)) | exact fun q => q.2.2 (sAt_none (fun z => bN_no h_63 z.1)) | exact fun q => by rw [sAt_some (bN_pos h_63) h_49] at q; omega)) ls hl
                  · skip
                    refine lv_aload_n hx hb dX3_lastEnd_66 rfl (lv_at hl 2 rfl) ?_
                    refine va_get (D := D) (v := .ref (q 14)) hx hb hts hin_X3 hown hX.1 hP 0 rfl rfl 20 (by decide) hf_50 (fun _ h9 => h9) rfl dX3_lastEnd_67 ?_
                    refine lv_aload_n hx hb dX3_lastEnd_70 rfl (lv_at hl 2 rfl) ?_
                    refine lv_iload hx hb dX3_lastEnd_71 (lv_at hl 1 rfl) ?_
                    refine lv_iload hx hb dX3_lastEnd_73 (lv_at hl 0 rfl) ?_
                    refine rd_V (As := [.int (nI i), .int (nI d)]) (rest := [.ref (q 14)]) ⟨hx, hb, hml, hown, hts⟩ (k_X3_from l D q k S Z i d hJ (by omega) h_18) (cwV 2 hts gX3_lastEnd_X3_from rfl rfl rfl (by decide +kernel) ⟨by decide, by decide⟩) hX hP (q0 := 0) rfl rfl rfl hl.1 rfl (Nat.le_of_ble_eq_true rfl) dX3_lastEnd_75 ⟨Nat.zero_le _, Nat.zero_le _⟩ ?_
                    refine na_iald hx hb hX.1 hP 14 0 rfl rfl (by omega) (by decide) dX3_lastEnd_78 ?_
                    refine na_as (y := nI (Z 1 (S 7 (2 * i + d)))) (rI_some h_49) ?_
                    refine lv_aload_n hx hb dX3_lastEnd_79 rfl (lv_at hl 2 rfl) ?_
                    refine va_get (D := D) (v := .ref (q 9)) hx hb hts hin_X3 hown hX.1 hP 0 rfl rfl 11 (by decide) hf_35 (fun _ h9 => h9) rfl dX3_lastEnd_80 ?_
                    refine lv_iload hx hb dX3_lastEnd_83 (lv_at hl 1 rfl) ?_
                    refine na_iald hx hb hX.1 hP 9 0 rfl rfl (by omega) (by decide) dX3_lastEnd_85 ?_
                    refine na_iadd hx hb dX3_lastEnd_86 ?_
                    refine lv_iload_n hx hb dX3_lastEnd_87 rfl (lv_at hl 5 rfl) ?_
                    refine na_icmp_ne (tgt := 100) hx hb (by omega) (by omega) dX3_lastEnd_88 (by decide) (fun h_88 => ?_) (fun h_88 => ?_)
                    · skip
                      refine lv_iinc (v := nI (d + 1)) (lv' := [(6, .int (nI (d + 1))), (5, .int (nI i)), (0, .ref (q 0)), (1, .int (nI b0)), (2, .int (nI p0)), (3, .int (nI t0)), (4, .int (nI h0))]) hx hb dX3_lastEnd_100 hl (k := 0) rfl (nI_add _ 1) (by decide) rfl (fun ls hl => ?_)
                      refine lv_goto (tgt := 15) hx hb dX3_lastEnd_103 (by decide) ?_
                      exact ih15 (d + 1) (by omega) (by omega) (by rw [show 2 * i + (d + 1) = 2 * i + d + 1 from rfl]; exact ff_s h5 (by simp only [decide_eq_true_eq]; first | exact fun q => h_32 q.1 | exact fun q => q.2.2 (sAt_none (fun z => z.2 h_49)) | exact fun q => q.2.2 (sAt_none (fun z => bN_no h_63 z.1)) | exact fun q => by rw [sAt_some (bN_pos h_63) h_49] at q; omega)) ls hl
                    · skip
                      refine lv_aload_n hx hb dX3_lastEnd_91 rfl (lv_at hl 2 rfl) ?_
                      refine lv_iload hx hb dX3_lastEnd_92 (lv_at hl 1 rfl) ?_
                      refine lv_iload hx hb dX3_lastEnd_94 (lv_at hl 0 rfl) ?_
                      refine rd_V (As := [.int (nI i), .int (nI d)]) (rest := []) ⟨hx, hb, hml, hown, hts⟩ (k_X3_from l D q k S Z i d hJ (by omega) h_18) (cwV 2 hts gX3_lastEnd_X3_from rfl rfl rfl (by decide +kernel) ⟨by decide, by decide⟩) hX hP (q0 := 0) rfl rfl rfl hl.1 rfl (Nat.le_of_ble_eq_true rfl) dX3_lastEnd_96 ⟨Nat.zero_le _, Nat.zero_le _⟩ ?_
                      exact W.iret (v := nI (S 7 (2 * i + d))) hx hb hr (fun t ht hW => ⟨_, rfl, by rw [lEn, ff_y h5 (by rw [decide_eq_true_eq, sAt_some (bN_pos h_63) h_49]; omega) _ hj, atS_y]; exact pI_s _, ht⟩) (fun _ h => by cases h) dX3_lastEnd_99
        exact L15 3 0 (by omega) (by omega) h3 ls hl
  exact L3 (S 0 1 + 1) 0 (by omega) (by omega) rfl ls hl

set_option maxHeartbeats 4000000 in
set_option maxRecDepth 100000 in
theorem k_X3_before (l : Launch) (D : va_G) (q : Nat → Nat) (k : Nat → ClassId) (S Z : Nat → Nat → Nat) (b0 : Nat) (e0 : Nat) (h0 : Nat) (hB : Bd S) (hJ : Jn S) (hR : Rb (Z 1)) (hb0 : b0 < 6) (he : e0 < 40) (hh : h0 < 24) : Met l yX3_before wsX3_before ({ frames := 3, cells := 0, slots := 0, locals := 72 } : Room) (va_Pc [.ref (q 0), .int (nI b0), .int (nI e0), .int (nI h0)] (rB D k (wM q k S Z))) (vp_Si (fun r => r = pI (atS S (bEn S (opn S (S 11 b0) h0) (Z 1) e0 (S 0 1))))) 0 0 (fun _ => False) := by
  refine Met.ofW (cc := cX3_before) (maxL := 6) (ret := (some .int)) (by decide) rfl ?_
  intro p e s m args below meth c s₁ B hml hv
  obtain ⟨rfl, hP, hX⟩ := hv
  have hx := B.exec
  have hb := B.bytes
  have hr := B.returns
  have hts := atoms_spec (ws := wsX3_before) B.pre
  have hown : s.vm.findClass RX3 = some m.cls := findClass_of_methodNamed B.named
  have hlocks := B.notSynchronized
  have hf_50 := hts (.fieldLink RX3 50 "FloorGraphModel" "reached" "[I") (by decide +kernel)
  have hf_73 := hts (.fieldLink RX3 73 "FloorGraphModel" "joins" "I") (by decide +kernel)
  have hin_X3 : ∀ w ∈ u_ws RX3 TX3 24, w ∈ wsX3_before := by decide +kernel
  have f0 := hB.1
  have fj := hJ.1
  have fr := hR e0
  have ff0 : fl e0 < 2 * 20 := fl_lt (by omega)
  have hl := lv_entry ([.ref (q 0), .int (nI b0), .int (nI e0), .int (nI h0)]) (n := 6) (Nat.le_of_ble_eq_true rfl)
  rw [lg_entry_eq]
  generalize (lg_sl ([.ref (q 0), .int (nI b0), .int (nI e0), .int (nI h0)]) ++ List.replicate (6 - (lg_sl ([.ref (q 0), .int (nI b0), .int (nI e0), .int (nI h0)])).length) Slot.unset).toArray = ls at hl ⊢
  have hl : lv_has ls 6 [(0, .ref (q 0)), (1, .int (nI b0)), (2, .int (nI e0)), (3, .int (nI h0))] := hl
  refine lv_iconst (v := nI 0) hx hb dX3_before_0 (by decide) ?_
  refine lv_istore (lv' := [(4, .int (nI 0)), (0, .ref (q 0)), (1, .int (nI b0)), (2, .int (nI e0)), (3, .int (nI h0))]) hx hb dX3_before_1 hl (by decide) rfl (fun ls hl => ?_)
  have L3 : ∀ (n3 : Nat) (i : Nat), (S 0 1 / 2 < i + n3) → (h1 : 2 * i ≤ S 0 1) → (h3 : bEn S (opn S (S 11 b0) h0) (Z 1) e0 (2 * i) = 0) → ∀ (ls : Array Slot), lv_has ls 6 [(4, .int (nI i)), (0, .ref (q 0)), (1, .int (nI b0)), (2, .int (nI e0)), (3, .int (nI h0))] → W p l e (headSpec wsX3_before ({ frames := 3, cells := 0, slots := 0, locals := 72 } : Room)).room s m [.ref (q 0), .int (nI b0), .int (nI e0), .int (nI h0)].toArray below meth c s.heap [] 0 0 (MQ below (vp_Si (fun r => r = pI (atS S (bEn S (opn S (S 11 b0) h0) (Z 1) e0 (S 0 1))))) [.ref (q 0), .int (nI b0), .int (nI e0), .int (nI h0)].toArray s 0 0 (fun _ => False)) (F0 m 3 ls []) := by
    intro n3
    induction n3 with
    | zero =>
      intro i hfuel3 h1 h3 ls hl
      exact absurd hfuel3 (by omega)
    | succ n3 ih3 =>
      intro i hfuel3 h1 h3 ls hl
      refine lv_iload hx hb dX3_before_3 (lv_at hl 0 rfl) ?_
      refine lv_aload_n hx hb dX3_before_5 rfl (lv_at hl 1 rfl) ?_
      refine va_get (D := D) (v := .int (nI (S 0 1 / 2))) hx hb hts hin_X3 hown hX.1 hP 0 rfl rfl 8 (by decide) hf_73 (fun _ h9 => h9) rfl dX3_before_6 ?_
      refine na_icmp_ge (tgt := 75) hx hb (by omega) (by omega) dX3_before_9 (by decide) (fun h_9 => ?_) (fun h_9 => ?_)
      · skip
        refine lv_iconst (v := pI 0) hx hb dX3_before_75 (by decide) ?_
        exact W.iret (v := pI 0) hx hb hr (fun t ht hW => ⟨_, rfl, by rw [← show 2 * i = S 0 1 by omega, h3]; rfl, ht⟩) (fun _ h => by cases h) dX3_before_76
      · skip
        refine lv_iconst (v := nI 0) hx hb dX3_before_12 (by decide) ?_
        refine lv_istore (lv' := [(5, .int (nI 0)), (4, .int (nI i)), (0, .ref (q 0)), (1, .int (nI b0)), (2, .int (nI e0)), (3, .int (nI h0))]) hx hb dX3_before_13 hl (by decide) rfl (fun ls hl => ?_)
        have L15 : ∀ (n15 : Nat) (d : Nat), (2 < d + n15) → (h4 : d ≤ 2) → (h5 : bEn S (opn S (S 11 b0) h0) (Z 1) e0 (2 * i + d) = 0) → ∀ (ls : Array Slot), lv_has ls 6 [(5, .int (nI d)), (4, .int (nI i)), (0, .ref (q 0)), (1, .int (nI b0)), (2, .int (nI e0)), (3, .int (nI h0))] → W p l e (headSpec wsX3_before ({ frames := 3, cells := 0, slots := 0, locals := 72 } : Room)).room s m [.ref (q 0), .int (nI b0), .int (nI e0), .int (nI h0)].toArray below meth c s.heap [] 0 0 (MQ below (vp_Si (fun r => r = pI (atS S (bEn S (opn S (S 11 b0) h0) (Z 1) e0 (S 0 1))))) [.ref (q 0), .int (nI b0), .int (nI e0), .int (nI h0)].toArray s 0 0 (fun _ => False)) (F0 m 15 ls []) := by
          intro n15
          induction n15 with
          | zero =>
            intro d hfuel15 h4 h5 ls hl
            exact absurd hfuel15 (by omega)
          | succ n15 ih15 =>
            intro d hfuel15 h4 h5 ls hl
            refine lv_iload hx hb dX3_before_15 (lv_at hl 0 rfl) ?_
            refine lv_iconst (v := nI 2) hx hb dX3_before_17 (by decide) ?_
            refine na_icmp_ge (tgt := 69) hx hb (by omega) (by omega) dX3_before_18 (by decide) (fun h_18 => ?_) (fun h_18 => ?_)
            · skip
              refine lv_iinc (v := nI (i + 1)) (lv' := [(4, .int (nI (i + 1))), (5, .int (nI d)), (0, .ref (q 0)), (1, .int (nI b0)), (2, .int (nI e0)), (3, .int (nI h0))]) hx hb dX3_before_69 hl (k := 1) rfl (nI_add _ 1) (by decide) rfl (fun ls hl => ?_)
              refine lv_goto (tgt := 3) hx hb dX3_before_72 (by decide) ?_
              exact ih3 (i + 1) (by omega) (by omega) (by rw [show 2 * (i + 1) = 2 * i + d by omega]; exact h5) ls (lv_sub hl [0, 2, 3, 4, 5] rfl)
            · skip
              have hj : 2 * i + d < S 0 1 := by omega
              have f7 := hB.2.2.2.1 (2 * i + d) hj
              have fs := sBh_le (fun p => (hB.2.2.1 p).1) (fun i => (hB.2.1 i).2.1) hR.le (o := opn S (S 11 b0) h0) (2 * i + d)
              refine lv_aload_n hx hb dX3_before_21 rfl (lv_at hl 2 rfl) ?_
              refine lv_iload hx hb dX3_before_22 (lv_at hl 1 rfl) ?_
              refine lv_iload hx hb dX3_before_24 (lv_at hl 0 rfl) ?_
              refine rd_V (As := [.int (nI i), .int (nI d)]) (rest := []) ⟨hx, hb, hml, hown, hts⟩ (k_X3_to l D q k S Z i d hJ (by omega) h_18) (cwV 2 hts gX3_before_X3_to rfl rfl rfl (by decide +kernel) ⟨by decide, by decide⟩) hX hP (q0 := 0) rfl rfl rfl hl.1 rfl (Nat.le_of_ble_eq_true rfl) dX3_before_26 ⟨Nat.zero_le _, Nat.zero_le _⟩ ?_
              refine lv_iload_n hx hb dX3_before_29 rfl (lv_at hl 4 rfl) ?_
              refine lv_iconst (v := nI 1) hx hb dX3_before_30 (by decide) ?_
              refine na_ixor1 hx hb (by omega) dX3_before_31 ?_
              refine na_icmp_ne (tgt := 63) hx hb (by omega) (by omega) dX3_before_32 (by decide) (fun h_32 => ?_) (fun h_32 => ?_)
              · skip
                refine lv_iinc (v := nI (d + 1)) (lv' := [(5, .int (nI (d + 1))), (4, .int (nI i)), (0, .ref (q 0)), (1, .int (nI b0)), (2, .int (nI e0)), (3, .int (nI h0))]) hx hb dX3_before_63 hl (k := 0) rfl (nI_add _ 1) (by decide) rfl (fun ls hl => ?_)
                refine lv_goto (tgt := 15) hx hb dX3_before_66 (by decide) ?_
                exact ih15 (d + 1) (by omega) (by omega) (by rw [show 2 * i + (d + 1) = 2 * i + d + 1 from rfl]; exact ff_s h5 (by simp only [decide_eq_true_eq]; omega)) ls hl
              · skip
                refine lv_aload_n hx hb dX3_before_35 rfl (lv_at hl 2 rfl) ?_
                refine lv_iload_n hx hb dX3_before_36 rfl (lv_at hl 3 rfl) ?_
                refine lv_iload hx hb dX3_before_37 (lv_at hl 1 rfl) ?_
                refine lv_iload hx hb dX3_before_39 (lv_at hl 0 rfl) ?_
                refine lv_iload_n hx hb dX3_before_41 rfl (lv_at hl 5 rfl) ?_
                refine rd_V (As := [.int (nI b0), .int (nI i), .int (nI d), .int (nI h0)]) (rest := []) ⟨hx, hb, hml, hown, hts⟩ (k_X3_through l D q k S Z b0 i d h0 hB hJ hR hb0 hj h_18 hh) (cwV 4 hts gX3_before_X3_through rfl rfl rfl (by decide +kernel) ⟨by decide, by decide⟩) hX hP (q0 := 0) rfl rfl rfl hl.1 rfl (Nat.le_of_ble_eq_true rfl) dX3_before_42 ⟨Nat.zero_le _, Nat.zero_le _⟩ ?_
                refine lv_aload_n hx hb dX3_before_45 rfl (lv_at hl 2 rfl) ?_
                refine va_get (D := D) (v := .ref (q 14)) hx hb hts hin_X3 hown hX.1 hP 0 rfl rfl 20 (by decide) hf_50 (fun _ h9 => h9) rfl dX3_before_46 ?_
                refine lv_iload_n hx hb dX3_before_49 rfl (lv_at hl 4 rfl) ?_
                refine na_iald hx hb hX.1 hP 14 0 rfl rfl (by omega) (by decide) dX3_before_50 ?_
                refine nzz_icmp_ne (tgt := 63) hx hb (by omega) (by omega) dX3_before_51 (by decide) (fun h_51 => ?_) (fun h_51 => ?_)
                · skip
                  refine lv_iinc (v := nI (d + 1)) (lv' := [(5, .int (nI (d + 1))), (4, .int (nI i)), (0, .ref (q 0)), (1, .int (nI b0)), (2, .int (nI e0)), (3, .int (nI h0))]) hx hb dX3_before_63 hl (k := 0) rfl (nI_add _ 1) (by decide) rfl (fun ls hl => ?_)
                  refine lv_goto (tgt := 15) hx hb dX3_before_66 (by decide) ?_
                  exact ih15 (d + 1) (by omega) (by omega) (by rw [show 2 * i + (d + 1) = 2 * i + d + 1 from rfl]; exact ff_s h5 (by simp only [decide_eq_true_eq]; omega)) ls hl
                · skip
                  refine lv_aload_n hx hb dX3_before_54 rfl (lv_at hl 2 rfl) ?_
                  refine lv_iload hx hb dX3_before_55 (lv_at hl 1 rfl) ?_
                  refine lv_iload hx hb dX3_before_57 (lv_at hl 0 rfl) ?_
                  refine rd_V (As := [.int (nI i), .int (nI d)]) (rest := []) ⟨hx, hb, hml, hown, hts⟩ (k_X3_from l D q k S Z i d hJ (by omega) h_18) (cwV 2 hts gX3_before_X3_from rfl rfl rfl (by decide +kernel) ⟨by decide, by decide⟩) hX hP (q0 := 0) rfl rfl rfl hl.1 rfl (Nat.le_of_ble_eq_true rfl) dX3_before_59 ⟨Nat.zero_le _, Nat.zero_le _⟩ ?_
                  exact W.iret (v := nI (S 7 (2 * i + d))) hx hb hr (fun t ht hW => ⟨_, rfl, by rw [bEn, ff_y h5 (by rw [decide_eq_true_eq]; omega) _ hj, atS_y]; exact pI_s _, ht⟩) (fun _ h => by cases h) dX3_before_62
        exact L15 3 0 (by omega) (by omega) h3 ls hl
  exact L3 (S 0 1 + 1) 0 (by omega) (by omega) rfl ls hl
end
section
set_option maxHeartbeats 4000000 in
set_option maxRecDepth 100000 in
theorem k_X3_lower (l : Launch) (D : va_G) (q : Nat → Nat) (k : Nat → ClassId) (S Z : Nat → Nat → Nat) (sz : Nat) (b0 : Nat) (j0 : Nat) (d0 : Nat) (h0 : Nat) (hB : Bd S) (hJ : Jn S) (hR : Rb (Z 1)) (hb0 : b0 < 6) (hj : 2 * j0 + d0 < S 0 1) (hd : d0 < 2) (hh : h0 < 24) : Met l yX3_lower wsX3_lower ({ frames := 3, cells := 0, slots := 0, locals := 72 } : Room) (va_Pc [.ref (q 0), .int (nI b0), .int (nI j0), .int (nI d0), .int (nI h0)] (wB D k (wM q k S Z) sz)) (va_Qi (fun (r : Int32) (u : (Nat → Nat → Nat) × (Nat → Nat → Nat)) => r = nI (bN (decide (sBh S (opn S (S 11 b0) h0) (Z 1) (2 * j0 + d0) < Z 1 (fl (S 8 (2 * j0 + d0)))))) ∧ u.1 = S ∧ u.2 = upR Z 1 (rlx S (opn S (S 11 b0) h0) (Z 1) (2 * j0 + d0))) (fun u t => wE D (va_A (wM q k S Z) sz) (wM q k u.1 u.2) t) (va_A (wM q k S Z) sz)) 0 0 (va_A (wM q k S Z) sz) := by
  refine Met.ofW (cc := cX3_lower) (maxL := 7) (ret := (some .boolean)) (by decide) rfl ?_
  intro p e s m args below meth c s₁ B hml hv
  obtain ⟨rfl, hsz, hP, hX, hD0⟩ := hv
  have hx := B.exec
  have hb := B.bytes
  have hr := B.returns
  have hts := atoms_spec (ws := wsX3_lower) B.pre
  have hown : s.vm.findClass RX3 = some m.cls := findClass_of_methodNamed B.named
  have hlocks := B.notSynchronized
  subst hsz
  have hD := hD0.self (sz := s.heap.size)
  generalize hAe : va_A (wM q k S Z) s.heap.size = A at hD ⊢
  have hA : ∀ q : Nat, s.heap.size ≤ q → A q := fun q h => by rw [← hAe]; exact Or.inr h
  have hS : va_S A s.heap s.heap [] := va_S.rf
  have hP : va_P D vwCl (wM q k S Z) s.heap := hP
  have hf_50 := hts (.fieldLink RX3 50 "FloorGraphModel" "reached" "[I") (by decide +kernel)
  have hin_X3 : ∀ w ∈ u_ws RX3 TX3 24, w ∈ wsX3_lower := by decide +kernel
  have f0 := hB.1
  have f7 := hB.2.2.2.1 (2 * j0 + d0) hj
  have ff0 : fl (S 8 (2 * j0 + d0)) < 2 * 20 := fl_lt (by omega)
  have fr := hR (fl (S 8 (2 * j0 + d0)))
  have fs := sBh_le (fun p => (hB.2.2.1 p).1) (fun i => (hB.2.1 i).2.1) hR.le (o := opn S (S 11 b0) h0) (2 * j0 + d0)
  have fb := sBh_b (fun p => (hB.2.2.1 p).1) (fun i => (hB.2.1 i).2.1) hR (o := opn S (S 11 b0) h0) (2 * j0 + d0)
  have hl := lv_entry ([.ref (q 0), .int (nI b0), .int (nI j0), .int (nI d0), .int (nI h0)]) (n := 7) (Nat.le_of_ble_eq_true rfl)
  rw [lg_entry_eq]
  generalize (lg_sl ([.ref (q 0), .int (nI b0), .int (nI j0), .int (nI d0), .int (nI h0)]) ++ List.replicate (7 - (lg_sl ([.ref (q 0), .int (nI b0), .int (nI j0), .int (nI d0), .int (nI h0)])).length) Slot.unset).toArray = ls at hl ⊢
  have hl : lv_has ls 7 [(0, .ref (q 0)), (1, .int (nI b0)), (2, .int (nI j0)), (3, .int (nI d0)), (4, .int (nI h0))] := hl
  refine lv_aload_n hx hb dX3_lower_0 rfl (lv_at hl 0 rfl) ?_
  refine lv_iload_n hx hb dX3_lower_1 rfl (lv_at hl 1 rfl) ?_
  refine lv_iload_n hx hb dX3_lower_2 rfl (lv_at hl 2 rfl) ?_
  refine lv_iload_n hx hb dX3_lower_3 rfl (lv_at hl 3 rfl) ?_
  refine lv_iload hx hb dX3_lower_4 (lv_at hl 4 rfl) ?_
  refine rd_V (As := [.int (nI b0), .int (nI j0), .int (nI d0), .int (nI h0)]) (rest := []) ⟨hx, hb, hml, hown, hts⟩ (k_X3_through l D q k S Z b0 j0 d0 h0 hB hJ hR hb0 hj hd hh) (cwV 4 hts gX3_lower_X3_through rfl rfl rfl (by decide +kernel) ⟨by decide, by decide⟩) hX hP (q0 := 0) rfl rfl rfl hl.1 rfl (Nat.le_of_ble_eq_true rfl) dX3_lower_6 ⟨Nat.zero_le _, Nat.zero_le _⟩ ?_
  refine lv_istore (lv' := [(5, .int (rI (sBh S (opn S (S 11 b0) h0) (Z 1) (2 * j0 + d0)))), (0, .ref (q 0)), (1, .int (nI b0)), (2, .int (nI j0)), (3, .int (nI d0)), (4, .int (nI h0))]) hx hb dX3_lower_9 hl (by decide) rfl (fun ls hl => ?_)
  refine lv_aload_n hx hb dX3_lower_11 rfl (lv_at hl 1 rfl) ?_
  refine lv_iload_n hx hb dX3_lower_12 rfl (lv_at hl 3 rfl) ?_
  refine lv_iload_n hx hb dX3_lower_13 rfl (lv_at hl 4 rfl) ?_
  refine rd_V (As := [.int (nI j0), .int (nI d0)]) (rest := []) ⟨hx, hb, hml, hown, hts⟩ (k_X3_to l D q k S Z j0 d0 hJ (by omega) hd) (cwV 2 hts gX3_lower_X3_to rfl rfl rfl (by decide +kernel) ⟨by decide, by decide⟩) hX hP (q0 := 0) rfl rfl rfl hl.1 rfl (Nat.le_of_ble_eq_true rfl) dX3_lower_14 ⟨Nat.zero_le _, Nat.zero_le _⟩ ?_
  refine lv_iconst (v := nI 1) hx hb dX3_lower_17 (by decide) ?_
  refine na_ixor1 hx hb (by omega) dX3_lower_18 ?_
  refine lv_istore (lv' := [(6, .int (nI (fl (S 8 (2 * j0 + d0))))), (5, .int (rI (sBh S (opn S (S 11 b0) h0) (Z 1) (2 * j0 + d0)))), (0, .ref (q 0)), (1, .int (nI b0)), (2, .int (nI j0)), (3, .int (nI d0)), (4, .int (nI h0))]) hx hb dX3_lower_19 hl (by decide) rfl (fun ls hl => ?_)
  refine lv_iload hx hb dX3_lower_21 (lv_at hl 1 rfl) ?_
  refine lv_iconst (v := pI 0) hx hb dX3_lower_23 (by decide) ?_
  refine nz_icmp_eq (tgt := 50) hx hb (by omega) dX3_lower_24 (by decide) (fun h_24 => ?_) (fun h_24 => ?_)
  · skip
    refine lv_iconst (v := nI 0) hx hb dX3_lower_50 (by decide) ?_
    exact W.zret (v := nI 0) hx hb hr (nar_b _ (by first | decide | omega | exact bN_le _)) (fun t ht hW => ⟨⟨_, (S, Z), rfl, ⟨bN0 (decide_eq_false (by omega)), rfl, by rw [rlx, if_neg (by omega), upR_id]⟩, by rw [ht]; exact hP, hD⟩, hS.F ht⟩) hS.2.2 dX3_lower_51
  · skip
    refine lv_aload_n hx hb dX3_lower_27 rfl (lv_at hl 2 rfl) ?_
    refine va_get (D := D) (v := .ref (q 14)) hx hb hts hin_X3 hown hX.1 hP 0 rfl rfl 20 (by decide) hf_50 (fun _ h9 => h9) rfl dX3_lower_28 ?_
    refine lv_iload hx hb dX3_lower_31 (lv_at hl 0 rfl) ?_
    refine na_iald hx hb hX.1 hP 14 0 rfl rfl (by omega) (by decide) dX3_lower_33 ?_
    refine lv_iconst (v := pI 0) hx hb dX3_lower_34 (by decide) ?_
    refine nz_icmp_eq (tgt := 52) hx hb (by omega) dX3_lower_35 (by decide) (fun h_35 => ?_) (fun h_35 => ?_)
    · skip
      refine lv_aload_n hx hb dX3_lower_52 rfl (lv_at hl 2 rfl) ?_
      refine va_get (D := D) (v := .ref (q 14)) hx hb hts hin_X3 hown hX.1 hP 0 rfl rfl 20 (by decide) hf_50 (fun _ h9 => h9) rfl dX3_lower_53 ?_
      refine lv_iload hx hb dX3_lower_56 (lv_at hl 0 rfl) ?_
      refine lv_iload hx hb dX3_lower_58 (lv_at hl 1 rfl) ?_
      refine na_iast hx hb hX.1 hP hD hS 14 0 rfl rfl (by omega) (by decide) (upd_enc rI _ _ _) dX3_lower_60 (fun H locs hP hD hS => ?_)
      have hP : va_P D vwCl (wM q k S (up2 Z 1 (fl (S 8 (2 * j0 + d0))) (sBh S (opn S (S 11 b0) h0) (Z 1) (2 * j0 + d0)))) H := hP
      have hD : va_D A (wM q k S (up2 Z 1 (fl (S 8 (2 * j0 + d0))) (sBh S (opn S (S 11 b0) h0) (Z 1) (2 * j0 + d0)))) := hD
      refine lv_iconst (v := nI 1) hx hb dX3_lower_61 (by decide) ?_
      exact W.zret (v := nI 1) hx hb hr (nar_b _ (by first | decide | omega | exact bN_le _)) (fun t ht hW => ⟨⟨_, (S, (up2 Z 1 (fl (S 8 (2 * j0 + d0))) (sBh S (opn S (S 11 b0) h0) (Z 1) (2 * j0 + d0)))), rfl, ⟨bN1 (decide_eq_true (by omega)), rfl, by rw [rlx, if_pos (by omega)]; rfl⟩, by rw [ht]; exact hP, hD⟩, hS.F ht⟩) hS.2.2 dX3_lower_62
    · skip
      refine lv_aload_n hx hb dX3_lower_38 rfl (lv_at hl 2 rfl) ?_
      refine va_get (D := D) (v := .ref (q 14)) hx hb hts hin_X3 hown hX.1 hP 0 rfl rfl 20 (by decide) hf_50 (fun _ h9 => h9) rfl dX3_lower_39 ?_
      refine lv_iload hx hb dX3_lower_42 (lv_at hl 0 rfl) ?_
      refine na_iald hx hb hX.1 hP 14 0 rfl rfl (by omega) (by decide) dX3_lower_44 ?_
      refine na_as (y := nI (Z 1 (fl (S 8 (2 * j0 + d0))))) (rI_some h_35) ?_
      refine lv_iload hx hb dX3_lower_45 (lv_at hl 1 rfl) ?_
      refine na_as (y := nI (sBh S (opn S (S 11 b0) h0) (Z 1) (2 * j0 + d0))) (rI_some h_24) ?_
      refine na_icmp_gt (tgt := 52) hx hb (by omega) (by omega) dX3_lower_47 (by decide) (fun h_47 => ?_) (fun h_47 => ?_)
      · skip
        refine lv_aload_n hx hb dX3_lower_52 rfl (lv_at hl 2 rfl) ?_
        refine va_get (D := D) (v := .ref (q 14)) hx hb hts hin_X3 hown hX.1 hP 0 rfl rfl 20 (by decide) hf_50 (fun _ h9 => h9) rfl dX3_lower_53 ?_
        refine lv_iload hx hb dX3_lower_56 (lv_at hl 0 rfl) ?_
        refine lv_iload hx hb dX3_lower_58 (lv_at hl 1 rfl) ?_
        refine na_iast hx hb hX.1 hP hD hS 14 0 rfl rfl (by omega) (by decide) (upd_enc rI _ _ _) dX3_lower_60 (fun H locs hP hD hS => ?_)
        have hP : va_P D vwCl (wM q k S (up2 Z 1 (fl (S 8 (2 * j0 + d0))) (sBh S (opn S (S 11 b0) h0) (Z 1) (2 * j0 + d0)))) H := hP
        have hD : va_D A (wM q k S (up2 Z 1 (fl (S 8 (2 * j0 + d0))) (sBh S (opn S (S 11 b0) h0) (Z 1) (2 * j0 + d0)))) := hD
        refine lv_iconst (v := nI 1) hx hb dX3_lower_61 (by decide) ?_
        exact W.zret (v := nI 1) hx hb hr (nar_b _ (by first | decide | omega | exact bN_le _)) (fun t ht hW => ⟨⟨_, (S, (up2 Z 1 (fl (S 8 (2 * j0 + d0))) (sBh S (opn S (S 11 b0) h0) (Z 1) (2 * j0 + d0)))), rfl, ⟨bN1 (decide_eq_true (by omega)), rfl, by rw [rlx, if_pos (by omega)]; rfl⟩, by rw [ht]; exact hP, hD⟩, hS.F ht⟩) hS.2.2 dX3_lower_62
      · skip
        refine lv_iconst (v := nI 0) hx hb dX3_lower_50 (by decide) ?_
        exact W.zret (v := nI 0) hx hb hr (nar_b _ (by first | decide | omega | exact bN_le _)) (fun t ht hW => ⟨⟨_, (S, Z), rfl, ⟨bN0 (decide_eq_false (by omega)), rfl, by rw [rlx, if_neg (by omega), upR_id]⟩, by rw [ht]; exact hP, hD⟩, hS.F ht⟩) hS.2.2 dX3_lower_51

set_option maxHeartbeats 4000000 in
set_option maxRecDepth 100000 in
theorem k_X3_reachAll (l : Launch) (D : va_G) (q : Nat → Nat) (k : Nat → ClassId) (S Z : Nat → Nat → Nat) (sz : Nat) (b0 : Nat) (a0 : Nat) (h0 : Nat) (hB : Bd S) (hJ : Jn S) (hR : Rb (Z 1)) (hG : Gr S (2 * S 0 0)) (hb0 : b0 < 6) (ha : a0 < S 0 0) (hh : h0 < 24) : Met l yX3_reachAll wsX3_reachAll ({ frames := 4, cells := 0, slots := 0, locals := 98 } : Room) (va_Pc [.ref (q 0), .int (nI b0), .int (nI a0), .int (nI h0)] (wB D k (wM q k S Z) sz)) (va_Qv (fun (u : (Nat → Nat → Nat) × (Nat → Nat → Nat)) => u.1 = S ∧ u.2 = upR Z 1 (itr S (opn S (S 11 b0) h0) (rs S a0 (Z 1)) 40)) (fun u t => wE D (va_A (wM q k S Z) sz) (wM q k u.1 u.2) t) (va_A (wM q k S Z) sz)) 0 0 (va_A (wM q k S Z) sz) := by
  refine Met.ofW (cc := cX3_reachAll) (maxL := 7) (ret := none) (by decide) rfl ?_
  intro p e s m args below meth c s₁ B hml hv
  obtain ⟨rfl, hsz, hP, hX, hD0⟩ := hv
  have hx := B.exec
  have hb := B.bytes
  have hr := B.returns
  have hts := atoms_spec (ws := wsX3_reachAll) B.pre
  have hown : s.vm.findClass RX3 = some m.cls := findClass_of_methodNamed B.named
  have hlocks := B.notSynchronized
  subst hsz
  have hD := hD0.self (sz := s.heap.size)
  generalize hAe : va_A (wM q k S Z) s.heap.size = A at hD ⊢
  have hA : ∀ q : Nat, s.heap.size ≤ q → A q := fun q h => by rw [← hAe]; exact Or.inr h
  have hS : va_S A s.heap s.heap [] := va_S.rf
  have hP : va_P D vwCl (wM q k S Z) s.heap := hP
  have hf_19 := hts (.fieldLink RX3 19 "FloorGraphModel" "both" "[Z") (by decide +kernel)
  have hf_50 := hts (.fieldLink RX3 50 "FloorGraphModel" "reached" "[I") (by decide +kernel)
  have hf_63 := hts (.fieldLink RX3 63 "FloorGraphModel" "pieces" "I") (by decide +kernel)
  have hf_73 := hts (.fieldLink RX3 73 "FloorGraphModel" "joins" "I") (by decide +kernel)
  have hin_X3 : ∀ w ∈ u_ws RX3 TX3 24, w ∈ wsX3_reachAll := by decide +kernel
  have f0 := hB.1
  have fj := hJ.1
  have f4 := hB.2.1 a0
  have hOk := rs_Okr (o := opn S (S 11 b0) h0) (S := S) (a := a0) hR
  have hl := lv_entry ([.ref (q 0), .int (nI b0), .int (nI a0), .int (nI h0)]) (n := 7) (Nat.le_of_ble_eq_true rfl)
  rw [lg_entry_eq]
  generalize (lg_sl ([.ref (q 0), .int (nI b0), .int (nI a0), .int (nI h0)]) ++ List.replicate (7 - (lg_sl ([.ref (q 0), .int (nI b0), .int (nI a0), .int (nI h0)])).length) Slot.unset).toArray = ls at hl ⊢
  have hl : lv_has ls 7 [(0, .ref (q 0)), (1, .int (nI b0)), (2, .int (nI a0)), (3, .int (nI h0))] := hl
  refine lv_iconst (v := nI 0) hx hb dX3_reachAll_0 (by decide) ?_
  refine lv_istore (lv' := [(4, .int (nI 0)), (0, .ref (q 0)), (1, .int (nI b0)), (2, .int (nI a0)), (3, .int (nI h0))]) hx hb dX3_reachAll_1 hl (by decide) rfl (fun ls hl => ?_)
  have L3 : ∀ (n3 : Nat) (i : Nat) (Y : Nat → Nat → Nat), (2 * S 0 0 < i + n3) → (h1 : i ≤ 2 * S 0 0) → (hY : Y = upR Z 1 (fun j => if j < i then 1000000 else Z 1 j)) → ∀ (H : Heap) (locs : List Loc), va_P D vwCl (wM q k S Y) H → va_D A (wM q k S Y) → va_S A s.heap H locs → ∀ (ls : Array Slot), lv_has ls 7 [(4, .int (nI i)), (0, .ref (q 0)), (1, .int (nI b0)), (2, .int (nI a0)), (3, .int (nI h0))] → W p l e (headSpec wsX3_reachAll ({ frames := 4, cells := 0, slots := 0, locals := 98 } : Room)).room s m [.ref (q 0), .int (nI b0), .int (nI a0), .int (nI h0)].toArray below meth c H locs 0 0 (MQ below (va_Qv (fun (u : (Nat → Nat → Nat) × (Nat → Nat → Nat)) => u.1 = S ∧ u.2 = upR Z 1 (itr S (opn S (S 11 b0) h0) (rs S a0 (Z 1)) 40)) (fun u t => wE D (A) (wM q k u.1 u.2) t) (A)) [.ref (q 0), .int (nI b0), .int (nI a0), .int (nI h0)].toArray s 0 0 A) (F0 m 3 ls []) := by
    intro n3
    induction n3 with
    | zero =>
      intro i Y hfuel3 h1 hY H locs hP hD hS ls hl
      exact absurd hfuel3 (by omega)
    | succ n3 ih3 =>
      intro i Y hfuel3 h1 hY H locs hP hD hS ls hl
      refine lv_iload hx hb dX3_reachAll_3 (lv_at hl 0 rfl) ?_
      refine lv_iconst (v := nI 2) hx hb dX3_reachAll_5 (by decide) ?_
      refine lv_aload_n hx hb dX3_reachAll_6 rfl (lv_at hl 1 rfl) ?_
      refine va_get (D := D) (v := .int (nI (S 0 0))) hx hb hts hin_X3 hown hX.1 hP 0 rfl rfl 1 (by decide) hf_63 (fun _ h9 => h9) rfl dX3_reachAll_7 ?_
      refine na_imul hx hb dX3_reachAll_10 ?_
      refine na_icmp_ge (tgt := 28) hx hb (by omega) (by omega) dX3_reachAll_11 (by decide) (fun h_11 => ?_) (fun h_11 => ?_)
      · skip
        refine lv_aload_n hx hb dX3_reachAll_28 rfl (lv_at hl 1 rfl) ?_
        refine va_get (D := D) (v := .ref (q 14)) hx hb hts hin_X3 hown hX.1 hP 0 rfl rfl 20 (by decide) hf_50 (fun _ h9 => h9) rfl dX3_reachAll_29 ?_
        refine lv_iconst (v := nI 2) hx hb dX3_reachAll_32 (by decide) ?_
        refine lv_iload_n hx hb dX3_reachAll_33 rfl (lv_at hl 3 rfl) ?_
        refine na_imul hx hb dX3_reachAll_34 ?_
        refine lv_iconst (v := nI 1) hx hb dX3_reachAll_35 (by decide) ?_
        refine na_iadd hx hb dX3_reachAll_36 ?_
        refine lv_iconst (v := nI 0) hx hb dX3_reachAll_37 (by decide) ?_
        refine na_as (y := rI 0) rfl ?_
        refine na_iast hx hb hX.1 hP hD hS 14 0 rfl rfl (by omega) (by decide) (upd_enc rI _ _ _) dX3_reachAll_38 (fun H locs hP hD hS => ?_)
        have hP : va_P D vwCl (wM q k S (up2 Y 1 ((2 * a0) + 1) 0)) H := hP
        have hD : va_D A (wM q k S (up2 Y 1 ((2 * a0) + 1) 0)) := hD
        refine lv_aload_n hx hb dX3_reachAll_39 rfl (lv_at hl 1 rfl) ?_
        refine va_get (D := D) (v := .ref (q 4)) hx hb hts hin_X3 hown hX.1 hP 0 rfl rfl 5 (by decide) hf_19 (fun _ h9 => h9) rfl dX3_reachAll_40 ?_
        refine lv_iload_n hx hb dX3_reachAll_43 rfl (lv_at hl 3 rfl) ?_
        refine na_zald hx hb hX.1 hP 4 1 rfl rfl (by omega) (by decide) dX3_reachAll_44 ?_
        refine na_if_eq (tgt := 57) hx hb (by omega) dX3_reachAll_45 (by decide) (fun h_45 => ?_) (fun h_45 => ?_)
        · skip
          refine lv_iconst (v := nI 1) hx hb dX3_reachAll_57 (by decide) ?_
          refine lv_istore (lv' := [(4, .int (nI 1)), (0, .ref (q 0)), (1, .int (nI b0)), (2, .int (nI a0)), (3, .int (nI h0))]) hx hb dX3_reachAll_58 hl (by decide) rfl (fun ls hl => ?_)
          have L60 : ∀ (n60 : Nat) (tt : Nat) (f : Nat) (X : Nat → Nat → Nat), (41 < tt + n60) → (h2 : tt ≤ 41) → (h3 : f = 1 ∧ tt ≤ 40 ∨ f = 0 ∧ chg S (opn S (S 11 b0) h0) (itr S (opn S (S 11 b0) h0) (rs S a0 (Z 1)) tt) (S 0 1) = false) → (hX1 : X = upR Z 1 (itr S (opn S (S 11 b0) h0) (rs S a0 (Z 1)) tt)) → ∀ (H : Heap) (locs : List Loc), va_P D vwCl (wM q k S X) H → va_D A (wM q k S X) → va_S A s.heap H locs → ∀ (ls : Array Slot), lv_has ls 7 [(4, .int (nI f)), (0, .ref (q 0)), (1, .int (nI b0)), (2, .int (nI a0)), (3, .int (nI h0))] → W p l e (headSpec wsX3_reachAll ({ frames := 4, cells := 0, slots := 0, locals := 98 } : Room)).room s m [.ref (q 0), .int (nI b0), .int (nI a0), .int (nI h0)].toArray below meth c H locs 0 0 (MQ below (va_Qv (fun (u : (Nat → Nat → Nat) × (Nat → Nat → Nat)) => u.1 = S ∧ u.2 = upR Z 1 (itr S (opn S (S 11 b0) h0) (rs S a0 (Z 1)) 40)) (fun u t => wE D (A) (wM q k u.1 u.2) t) (A)) [.ref (q 0), .int (nI b0), .int (nI a0), .int (nI h0)].toArray s 0 0 A) (F0 m 60 ls []) := by
            intro n60
            induction n60 with
            | zero =>
              intro tt f X hfuel60 h2 h3 hX1 H locs hP hD hS ls hl
              exact absurd hfuel60 (by omega)
            | succ n60 ih60 =>
              intro tt f X hfuel60 h2 h3 hX1 H locs hP hD hS ls hl
              refine lv_iload hx hb dX3_reachAll_60 (lv_at hl 0 rfl) ?_
              refine na_if_eq (tgt := 129) hx hb (by omega) dX3_reachAll_62 (by decide) (fun h_62 => ?_) (fun h_62 => ?_)
              · skip
                exact W.vret hx hb hr (fun t ht hW => ⟨⟨(S, X), rfl, ⟨rfl, by rw [hX1]; exact congrArg (upR Z 1) (rs_fin hG hR ha tt (fun _ => (h3.resolve_left (by omega)).2))⟩, by rw [ht]; exact hP, hD⟩, hS.F ht⟩) hS.2.2 dX3_reachAll_129
              · skip
                refine lv_iconst (v := nI 0) hx hb dX3_reachAll_65 (by decide) ?_
                refine lv_istore (lv' := [(4, .int (nI 0)), (0, .ref (q 0)), (1, .int (nI b0)), (2, .int (nI a0)), (3, .int (nI h0))]) hx hb dX3_reachAll_66 hl (by decide) rfl (fun ls hl => ?_)
                refine lv_iconst (v := nI 0) hx hb dX3_reachAll_68 (by decide) ?_
                refine lv_istore (lv' := [(5, .int (nI 0)), (4, .int (nI 0)), (0, .ref (q 0)), (1, .int (nI b0)), (2, .int (nI a0)), (3, .int (nI h0))]) hx hb dX3_reachAll_69 hl (by decide) rfl (fun ls hl => ?_)
                have L71 : ∀ (n71 : Nat) (j : Nat) (f2 : Nat) (X2 : Nat → Nat → Nat), (S 0 1 / 2 < j + n71) → (h4 : 2 * j ≤ S 0 1) → (hf2 : f2 = bN (chg S (opn S (S 11 b0) h0) (itr S (opn S (S 11 b0) h0) (rs S a0 (Z 1)) tt) (2 * j))) → (hX2 : X2 = upR Z 1 (rnd S (opn S (S 11 b0) h0) (itr S (opn S (S 11 b0) h0) (rs S a0 (Z 1)) tt) (2 * j))) → ∀ (H : Heap) (locs : List Loc), va_P D vwCl (wM q k S X2) H → va_D A (wM q k S X2) → va_S A s.heap H locs → ∀ (ls : Array Slot), lv_has ls 7 [(5, .int (nI j)), (4, .int (nI f2)), (0, .ref (q 0)), (1, .int (nI b0)), (2, .int (nI a0)), (3, .int (nI h0))] → W p l e (headSpec wsX3_reachAll ({ frames := 4, cells := 0, slots := 0, locals := 98 } : Room)).room s m [.ref (q 0), .int (nI b0), .int (nI a0), .int (nI h0)].toArray below meth c H locs 0 0 (MQ below (va_Qv (fun (u : (Nat → Nat → Nat) × (Nat → Nat → Nat)) => u.1 = S ∧ u.2 = upR Z 1 (itr S (opn S (S 11 b0) h0) (rs S a0 (Z 1)) 40)) (fun u t => wE D (A) (wM q k u.1 u.2) t) (A)) [.ref (q 0), .int (nI b0), .int (nI a0), .int (nI h0)].toArray s 0 0 A) (F0 m 71 ls []) := by
                  intro n71
                  induction n71 with
                  | zero =>
                    intro j f2 X2 hfuel71 h4 hf2 hX2 H locs hP hD hS ls hl
                    exact absurd hfuel71 (by omega)
                  | succ n71 ih71 =>
                    intro j f2 X2 hfuel71 h4 hf2 hX2 H locs hP hD hS ls hl
                    refine lv_iload hx hb dX3_reachAll_71 (lv_at hl 0 rfl) ?_
                    refine lv_aload_n hx hb dX3_reachAll_73 rfl (lv_at hl 2 rfl) ?_
                    refine va_get (D := D) (v := .int (nI (S 0 1 / 2))) hx hb hts hin_X3 hown hX.1 hP 0 rfl rfl 8 (by decide) hf_73 (fun _ h9 => h9) rfl dX3_reachAll_74 ?_
                    refine na_icmp_ge (tgt := 126) hx hb (by omega) (by omega) dX3_reachAll_77 (by decide) (fun h_77 => ?_) (fun h_77 => ?_)
                    · skip
                      refine lv_goto (tgt := 60) hx hb dX3_reachAll_126 (by decide) ?_
                      exact ih60 (tt + 1) f2 X2 (by omega) (by omega) (by show f2 = 1 ∧ tt + 1 ≤ 40 ∨ f2 = 0 ∧ chg _ _ (rnd _ _ (itr S (opn S (S 11 b0) h0) (rs S a0 (Z 1)) tt) (S 0 1)) (S 0 1) = false; rw [show 2 * j = S 0 1 by omega] at hf2; exact chg_d (fun q => rs_40 hG hR ha tt q) hf2) (by rw [hX2, show 2 * j = S 0 1 by omega]; rfl) _ _ hP hD hS ls (lv_sub hl [1, 2, 3, 4, 5] rfl)
                    · skip
                      refine lv_iconst (v := nI 0) hx hb dX3_reachAll_80 (by decide) ?_
                      refine lv_istore (lv' := [(6, .int (nI 0)), (5, .int (nI j)), (4, .int (nI f2)), (0, .ref (q 0)), (1, .int (nI b0)), (2, .int (nI a0)), (3, .int (nI h0))]) hx hb dX3_reachAll_81 hl (by decide) rfl (fun ls hl => ?_)
                      have L83 : ∀ (n83 : Nat) (d : Nat) (f3 : Nat) (X3 : Nat → Nat → Nat), (2 < d + n83) → (h5 : d ≤ 2) → (hf3 : f3 = bN (chg S (opn S (S 11 b0) h0) (itr S (opn S (S 11 b0) h0) (rs S a0 (Z 1)) tt) (2 * j + d))) → (hX3 : X3 = upR Z 1 (rnd S (opn S (S 11 b0) h0) (itr S (opn S (S 11 b0) h0) (rs S a0 (Z 1)) tt) (2 * j + d))) → ∀ (H : Heap) (locs : List Loc), va_P D vwCl (wM q k S X3) H → va_D A (wM q k S X3) → va_S A s.heap H locs → ∀ (ls : Array Slot), lv_has ls 7 [(6, .int (nI d)), (5, .int (nI j)), (4, .int (nI f3)), (0, .ref (q 0)), (1, .int (nI b0)), (2, .int (nI a0)), (3, .int (nI h0))] → W p l e (headSpec wsX3_reachAll ({ frames := 4, cells := 0, slots := 0, locals := 98 } : Room)).room s m [.ref (q 0), .int (nI b0), .int (nI a0), .int (nI h0)].toArray below meth c H locs 0 0 (MQ below (va_Qv (fun (u : (Nat → Nat → Nat) × (Nat → Nat → Nat)) => u.1 = S ∧ u.2 = upR Z 1 (itr S (opn S (S 11 b0) h0) (rs S a0 (Z 1)) 40)) (fun u t => wE D (A) (wM q k u.1 u.2) t) (A)) [.ref (q 0), .int (nI b0), .int (nI a0), .int (nI h0)].toArray s 0 0 A) (F0 m 83 ls []) := by
                        intro n83
                        induction n83 with
                        | zero =>
                          intro d f3 X3 hfuel83 h5 hf3 hX3 H locs hP hD hS ls hl
                          exact absurd hfuel83 (by omega)
                        | succ n83 ih83 =>
                          intro d f3 X3 hfuel83 h5 hf3 hX3 H locs hP hD hS ls hl
                          refine lv_iload hx hb dX3_reachAll_83 (lv_at hl 0 rfl) ?_
                          refine lv_iconst (v := nI 2) hx hb dX3_reachAll_85 (by decide) ?_
                          refine na_icmp_ge (tgt := 120) hx hb (by omega) (by omega) dX3_reachAll_86 (by decide) (fun h_86 => ?_) (fun h_86 => ?_)
                          · skip
                            refine lv_iinc (v := nI (j + 1)) (lv' := [(5, .int (nI (j + 1))), (6, .int (nI d)), (4, .int (nI f3)), (0, .ref (q 0)), (1, .int (nI b0)), (2, .int (nI a0)), (3, .int (nI h0))]) hx hb dX3_reachAll_120 hl (k := 1) rfl (nI_add _ 1) (by decide) rfl (fun ls hl => ?_)
                            refine lv_goto (tgt := 71) hx hb dX3_reachAll_123 (by decide) ?_
                            exact ih71 (j + 1) f3 X3 (by omega) (by omega) (by rw [show 2 * (j + 1) = 2 * j + d by omega]; exact hf3) (by rw [show 2 * (j + 1) = 2 * j + d by omega]; exact hX3) _ _ hP hD hS ls (lv_sub hl [0, 2, 3, 4, 5, 6] rfl)
                          · skip
                            refine lv_aload_n hx hb dX3_reachAll_89 rfl (lv_at hl 3 rfl) ?_
                            refine lv_iload_n hx hb dX3_reachAll_90 rfl (lv_at hl 4 rfl) ?_
                            refine lv_iload hx hb dX3_reachAll_91 (lv_at hl 1 rfl) ?_
                            refine lv_iload hx hb dX3_reachAll_93 (lv_at hl 0 rfl) ?_
                            refine lv_iload_n hx hb dX3_reachAll_95 rfl (lv_at hl 6 rfl) ?_
                            refine wr_Vi (As := [.int (nI b0), .int (nI j), .int (nI d), .int (nI h0)]) (rest := []) ⟨hx, hb, hml, hown, hts⟩ (k_X3_lower l D q k S X3 _ b0 j d h0 hB hJ (by rw [hX3, upR_same]; exact (Okr.rnd hG (Okr.itr hG hOk tt) (2 * j + d) (by omega)).2) hb0 (by omega) (by omega) hh) (cwV 4 hts gX3_reachAll_X3_lower rfl rfl rfl (by decide +kernel) ⟨by decide, by decide⟩) hX hP hD hS hA (q0 := 0) rfl rfl rfl hl.1 rfl (Nat.le_of_ble_eq_true rfl) dX3_reachAll_96 ⟨by decide, by decide⟩ (fun r_1 u_1 H locs hw_1 hP hD hS => ?_)
                            obtain ⟨S_1, Z_1⟩ := u_1
                            obtain ⟨e1, e2, e3⟩ := hw_1
                            dsimp only at e2 e3 hP hD
                            rw [e2, e3] at hP hD
                            subst e1
                            have hP : va_P D vwCl (wM q k S (upR X3 1 (rlx S (opn S (S 11 b0) h0) (X3 1) (2 * j + d)))) H := hP
                            have hD : va_D A (wM q k S (upR X3 1 (rlx S (opn S (S 11 b0) h0) (X3 1) (2 * j + d)))) := hD
                            refine na_if_ne (tgt := 107) hx hb (bN_lt _) dX3_reachAll_99 (by decide) (fun h_99 => ?_) (fun h_99 => ?_)
                            · skip
                              refine lv_iconst (v := nI 1) hx hb dX3_reachAll_107 (by decide) ?_
                              refine lv_goto (tgt := 112) hx hb dX3_reachAll_108 (by decide) ?_
                              refine lv_istore (lv' := [(4, .int (nI 1)), (6, .int (nI d)), (5, .int (nI j)), (0, .ref (q 0)), (1, .int (nI b0)), (2, .int (nI a0)), (3, .int (nI h0))]) hx hb dX3_reachAll_112 hl (by decide) rfl (fun ls hl => ?_)
                              refine lv_iinc (v := nI (d + 1)) (lv' := [(6, .int (nI (d + 1))), (4, .int (nI 1)), (5, .int (nI j)), (0, .ref (q 0)), (1, .int (nI b0)), (2, .int (nI a0)), (3, .int (nI h0))]) hx hb dX3_reachAll_114 hl (k := 1) rfl (nI_add _ 1) (by decide) rfl (fun ls hl => ?_)
                              refine lv_goto (tgt := 83) hx hb dX3_reachAll_117 (by decide) ?_
                              exact ih83 (d + 1) 1 ((upR X3 1 (rlx S (opn S (S 11 b0) h0) (X3 1) (2 * j + d)))) (by omega) (by omega) (by rw [hX3, upR_same] at h_99; rw [show 2 * j + (d + 1) = 2 * j + d + 1 from rfl]; first | exact chg_y h_99 | exact chg_o hf3 h_104 | exact chg_z hf3 h_104 h_99) (by rw [hX3, upR_upR, upR_same]; rfl) _ _ hP hD hS ls (lv_sub hl [0, 2, 1, 3, 4, 5, 6] rfl)
                            · skip
                              refine lv_iload hx hb dX3_reachAll_102 (lv_at hl 2 rfl) ?_
                              refine na_if_eq (tgt := 111) hx hb (by rw [hf3]; exact bN_lt _) dX3_reachAll_104 (by decide) (fun h_104 => ?_) (fun h_104 => ?_)
                              · skip
                                refine lv_iconst (v := nI 0) hx hb dX3_reachAll_111 (by decide) ?_
                                refine lv_istore (lv' := [(4, .int (nI 0)), (6, .int (nI d)), (5, .int (nI j)), (0, .ref (q 0)), (1, .int (nI b0)), (2, .int (nI a0)), (3, .int (nI h0))]) hx hb dX3_reachAll_112 hl (by decide) rfl (fun ls hl => ?_)
                                refine lv_iinc (v := nI (d + 1)) (lv' := [(6, .int (nI (d + 1))), (4, .int (nI 0)), (5, .int (nI j)), (0, .ref (q 0)), (1, .int (nI b0)), (2, .int (nI a0)), (3, .int (nI h0))]) hx hb dX3_reachAll_114 hl (k := 1) rfl (nI_add _ 1) (by decide) rfl (fun ls hl => ?_)
                                refine lv_goto (tgt := 83) hx hb dX3_reachAll_117 (by decide) ?_
                                exact ih83 (d + 1) 0 ((upR X3 1 (rlx S (opn S (S 11 b0) h0) (X3 1) (2 * j + d)))) (by omega) (by omega) (by rw [hX3, upR_same] at h_99; rw [show 2 * j + (d + 1) = 2 * j + d + 1 from rfl]; first | exact chg_y h_99 | exact chg_o hf3 h_104 | exact chg_z hf3 h_104 h_99) (by rw [hX3, upR_upR, upR_same]; rfl) _ _ hP hD hS ls (lv_sub hl [0, 2, 1, 3, 4, 5, 6] rfl)
                              · skip
                                refine lv_iconst (v := nI 1) hx hb dX3_reachAll_107 (by decide) ?_
                                refine lv_goto (tgt := 112) hx hb dX3_reachAll_108 (by decide) ?_
                                refine lv_istore (lv' := [(4, .int (nI 1)), (6, .int (nI d)), (5, .int (nI j)), (0, .ref (q 0)), (1, .int (nI b0)), (2, .int (nI a0)), (3, .int (nI h0))]) hx hb dX3_reachAll_112 hl (by decide) rfl (fun ls hl => ?_)
                                refine lv_iinc (v := nI (d + 1)) (lv' := [(6, .int (nI (d + 1))), (4, .int (nI 1)), (5, .int (nI j)), (0, .ref (q 0)), (1, .int (nI b0)), (2, .int (nI a0)), (3, .int (nI h0))]) hx hb dX3_reachAll_114 hl (k := 1) rfl (nI_add _ 1) (by decide) rfl (fun ls hl => ?_)
                                refine lv_goto (tgt := 83) hx hb dX3_reachAll_117 (by decide) ?_
                                exact ih83 (d + 1) 1 ((upR X3 1 (rlx S (opn S (S 11 b0) h0) (X3 1) (2 * j + d)))) (by omega) (by omega) (by rw [hX3, upR_same] at h_99; rw [show 2 * j + (d + 1) = 2 * j + d + 1 from rfl]; first | exact chg_y h_99 | exact chg_o hf3 h_104 | exact chg_z hf3 h_104 h_99) (by rw [hX3, upR_upR, upR_same]; rfl) _ _ hP hD hS ls (lv_sub hl [0, 2, 1, 3, 4, 5, 6] rfl)
                      exact L83 3 0 f2 X2 (by omega) (by omega) hf2 hX2 _ _ hP hD hS ls hl
                exact L71 (S 0 1 + 1) 0 0 X (by omega) (by omega) rfl hX1 _ _ hP hD hS ls hl
          have hY2 := rs_A (S := S) (Z := Z) ha (by omega)
          rw [show i = 2 * S 0 0 by omega] at hY
          exact L60 42 0 1 ((up2 Y 1 ((2 * a0) + 1) 0)) (by omega) (by omega) (Or.inl ⟨rfl, by omega⟩) (by rw [hY]; first | (rw [up2, up2, upR_upR, upR_upR, upR_same, upR_same]; exact congrArg (upR Z 1) (hY2.2 h_45)) | (rw [up2, upR_upR, upR_same]; exact congrArg (upR Z 1) (hY2.1 h_45))) _ _ hP hD hS ls hl
        · skip
          refine lv_aload_n hx hb dX3_reachAll_48 rfl (lv_at hl 1 rfl) ?_
          refine va_get (D := D) (v := .ref (q 14)) hx hb hts hin_X3 hown hX.1 hP 0 rfl rfl 20 (by decide) hf_50 (fun _ h9 => h9) rfl dX3_reachAll_49 ?_
          refine lv_iconst (v := nI 2) hx hb dX3_reachAll_52 (by decide) ?_
          refine lv_iload_n hx hb dX3_reachAll_53 rfl (lv_at hl 3 rfl) ?_
          refine na_imul hx hb dX3_reachAll_54 ?_
          refine lv_iconst (v := nI 0) hx hb dX3_reachAll_55 (by decide) ?_
          refine na_as (y := rI 0) rfl ?_
          refine na_iast hx hb hX.1 hP hD hS 14 0 rfl rfl (by omega) (by decide) (upd_enc rI _ _ _) dX3_reachAll_56 (fun H locs hP hD hS => ?_)
          have hP : va_P D vwCl (wM q k S (up2 (up2 Y 1 ((2 * a0) + 1) 0) 1 (2 * a0) 0)) H := hP
          have hD : va_D A (wM q k S (up2 (up2 Y 1 ((2 * a0) + 1) 0) 1 (2 * a0) 0)) := hD
          refine lv_iconst (v := nI 1) hx hb dX3_reachAll_57 (by decide) ?_
          refine lv_istore (lv' := [(4, .int (nI 1)), (0, .ref (q 0)), (1, .int (nI b0)), (2, .int (nI a0)), (3, .int (nI h0))]) hx hb dX3_reachAll_58 hl (by decide) rfl (fun ls hl => ?_)
          have L60 : ∀ (n60 : Nat) (tt : Nat) (f : Nat) (X : Nat → Nat → Nat), (41 < tt + n60) → (h2 : tt ≤ 41) → (h3 : f = 1 ∧ tt ≤ 40 ∨ f = 0 ∧ chg S (opn S (S 11 b0) h0) (itr S (opn S (S 11 b0) h0) (rs S a0 (Z 1)) tt) (S 0 1) = false) → (hX1 : X = upR Z 1 (itr S (opn S (S 11 b0) h0) (rs S a0 (Z 1)) tt)) → ∀ (H : Heap) (locs : List Loc), va_P D vwCl (wM q k S X) H → va_D A (wM q k S X) → va_S A s.heap H locs → ∀ (ls : Array Slot), lv_has ls 7 [(4, .int (nI f)), (0, .ref (q 0)), (1, .int (nI b0)), (2, .int (nI a0)), (3, .int (nI h0))] → W p l e (headSpec wsX3_reachAll ({ frames := 4, cells := 0, slots := 0, locals := 98 } : Room)).room s m [.ref (q 0), .int (nI b0), .int (nI a0), .int (nI h0)].toArray below meth c H locs 0 0 (MQ below (va_Qv (fun (u : (Nat → Nat → Nat) × (Nat → Nat → Nat)) => u.1 = S ∧ u.2 = upR Z 1 (itr S (opn S (S 11 b0) h0) (rs S a0 (Z 1)) 40)) (fun u t => wE D (A) (wM q k u.1 u.2) t) (A)) [.ref (q 0), .int (nI b0), .int (nI a0), .int (nI h0)].toArray s 0 0 A) (F0 m 60 ls []) := by
            intro n60
            induction n60 with
            | zero =>
              intro tt f X hfuel60 h2 h3 hX1 H locs hP hD hS ls hl
              exact absurd hfuel60 (by omega)
            | succ n60 ih60 =>
              intro tt f X hfuel60 h2 h3 hX1 H locs hP hD hS ls hl
              refine lv_iload hx hb dX3_reachAll_60 (lv_at hl 0 rfl) ?_
              refine na_if_eq (tgt := 129) hx hb (by omega) dX3_reachAll_62 (by decide) (fun h_62 => ?_) (fun h_62 => ?_)
              · skip
                exact W.vret hx hb hr (fun t ht hW => ⟨⟨(S, X), rfl, ⟨rfl, by rw [hX1]; exact congrArg (upR Z 1) (rs_fin hG hR ha tt (fun _ => (h3.resolve_left (by omega)).2))⟩, by rw [ht]; exact hP, hD⟩, hS.F ht⟩) hS.2.2 dX3_reachAll_129
              · skip
                refine lv_iconst (v := nI 0) hx hb dX3_reachAll_65 (by decide) ?_
                refine lv_istore (lv' := [(4, .int (nI 0)), (0, .ref (q 0)), (1, .int (nI b0)), (2, .int (nI a0)), (3, .int (nI h0))]) hx hb dX3_reachAll_66 hl (by decide) rfl (fun ls hl => ?_)
                refine lv_iconst (v := nI 0) hx hb dX3_reachAll_68 (by decide) ?_
                refine lv_istore (lv' := [(5, .int (nI 0)), (4, .int (nI 0)), (0, .ref (q 0)), (1, .int (nI b0)), (2, .int (nI a0)), (3, .int (nI h0))]) hx hb dX3_reachAll_69 hl (by decide) rfl (fun ls hl => ?_)
                have L71 : ∀ (n71 : Nat) (j : Nat) (f2 : Nat) (X2 : Nat → Nat → Nat), (S 0 1 / 2 < j + n71) → (h4 : 2 * j ≤ S 0 1) → (hf2 : f2 = bN (chg S (opn S (S 11 b0) h0) (itr S (opn S (S 11 b0) h0) (rs S a0 (Z 1)) tt) (2 * j))) → (hX2 : X2 = upR Z 1 (rnd S (opn S (S 11 b0) h0) (itr S (opn S (S 11 b0) h0) (rs S a0 (Z 1)) tt) (2 * j))) → ∀ (H : Heap) (locs : List Loc), va_P D vwCl (wM q k S X2) H → va_D A (wM q k S X2) → va_S A s.heap H locs → ∀ (ls : Array Slot), lv_has ls 7 [(5, .int (nI j)), (4, .int (nI f2)), (0, .ref (q 0)), (1, .int (nI b0)), (2, .int (nI a0)), (3, .int (nI h0))] → W p l e (headSpec wsX3_reachAll ({ frames := 4, cells := 0, slots := 0, locals := 98 } : Room)).room s m [.ref (q 0), .int (nI b0), .int (nI a0), .int (nI h0)].toArray below meth c H locs 0 0 (MQ below (va_Qv (fun (u : (Nat → Nat → Nat) × (Nat → Nat → Nat)) => u.1 = S ∧ u.2 = upR Z 1 (itr S (opn S (S 11 b0) h0) (rs S a0 (Z 1)) 40)) (fun u t => wE D (A) (wM q k u.1 u.2) t) (A)) [.ref (q 0), .int (nI b0), .int (nI a0), .int (nI h0)].toArray s 0 0 A) (F0 m 71 ls []) := by
                  intro n71
                  induction n71 with
                  | zero =>
                    intro j f2 X2 hfuel71 h4 hf2 hX2 H locs hP hD hS ls hl
                    exact absurd hfuel71 (by omega)
                  | succ n71 ih71 =>
                    intro j f2 X2 hfuel71 h4 hf2 hX2 H locs hP hD hS ls hl
                    refine lv_iload hx hb dX3_reachAll_71 (lv_at hl 0 rfl) ?_
                    refine lv_aload_n hx hb dX3_reachAll_73 rfl (lv_at hl 2 rfl) ?_
                    refine va_get (D := D) (v := .int (nI (S 0 1 / 2))) hx hb hts hin_X3 hown hX.1 hP 0 rfl rfl 8 (by decide) hf_73 (fun _ h9 => h9) rfl dX3_reachAll_74 ?_
                    refine na_icmp_ge (tgt := 126) hx hb (by omega) (by omega) dX3_reachAll_77 (by decide) (fun h_77 => ?_) (fun h_77 => ?_)
                    · skip
                      refine lv_goto (tgt := 60) hx hb dX3_reachAll_126 (by decide) ?_
                      exact ih60 (tt + 1) f2 X2 (by omega) (by omega) (by show f2 = 1 ∧ tt + 1 ≤ 40 ∨ f2 = 0 ∧ chg _ _ (rnd _ _ (itr S (opn S (S 11 b0) h0) (rs S a0 (Z 1)) tt) (S 0 1)) (S 0 1) = false; rw [show 2 * j = S 0 1 by omega] at hf2; exact chg_d (fun q => rs_40 hG hR ha tt q) hf2) (by rw [hX2, show 2 * j = S 0 1 by omega]; rfl) _ _ hP hD hS ls (lv_sub hl [1, 2, 3, 4, 5] rfl)
                    · skip
                      refine lv_iconst (v := nI 0) hx hb dX3_reachAll_80 (by decide) ?_
                      refine lv_istore (lv' := [(6, .int (nI 0)), (5, .int (nI j)), (4, .int (nI f2)), (0, .ref (q 0)), (1, .int (nI b0)), (2, .int (nI a0)), (3, .int (nI h0))]) hx hb dX3_reachAll_81 hl (by decide) rfl (fun ls hl => ?_)
                      have L83 : ∀ (n83 : Nat) (d : Nat) (f3 : Nat) (X3 : Nat → Nat → Nat), (2 < d + n83) → (h5 : d ≤ 2) → (hf3 : f3 = bN (chg S (opn S (S 11 b0) h0) (itr S (opn S (S 11 b0) h0) (rs S a0 (Z 1)) tt) (2 * j + d))) → (hX3 : X3 = upR Z 1 (rnd S (opn S (S 11 b0) h0) (itr S (opn S (S 11 b0) h0) (rs S a0 (Z 1)) tt) (2 * j + d))) → ∀ (H : Heap) (locs : List Loc), va_P D vwCl (wM q k S X3) H → va_D A (wM q k S X3) → va_S A s.heap H locs → ∀ (ls : Array Slot), lv_has ls 7 [(6, .int (nI d)), (5, .int (nI j)), (4, .int (nI f3)), (0, .ref (q 0)), (1, .int (nI b0)), (2, .int (nI a0)), (3, .int (nI h0))] → W p l e (headSpec wsX3_reachAll ({ frames := 4, cells := 0, slots := 0, locals := 98 } : Room)).room s m [.ref (q 0), .int (nI b0), .int (nI a0), .int (nI h0)].toArray below meth c H locs 0 0 (MQ below (va_Qv (fun (u : (Nat → Nat → Nat) × (Nat → Nat → Nat)) => u.1 = S ∧ u.2 = upR Z 1 (itr S (opn S (S 11 b0) h0) (rs S a0 (Z 1)) 40)) (fun u t => wE D (A) (wM q k u.1 u.2) t) (A)) [.ref (q 0), .int (nI b0), .int (nI a0), .int (nI h0)].toArray s 0 0 A) (F0 m 83 ls []) := by
                        intro n83
                        induction n83 with
                        | zero =>
                          intro d f3 X3 hfuel83 h5 hf3 hX3 H locs hP hD hS ls hl
                          exact absurd hfuel83 (by omega)
                        | succ n83 ih83 =>
                          intro d f3 X3 hfuel83 h5 hf3 hX3 H locs hP hD hS ls hl
                          refine lv_iload hx hb dX3_reachAll_83 (lv_at hl 0 rfl) ?_
                          refine lv_iconst (v := nI 2) hx hb dX3_reachAll_85 (by decide) ?_
                          refine na_icmp_ge (tgt := 120) hx hb (by omega) (by omega) dX3_reachAll_86 (by decide) (fun h_86 => ?_) (fun h_86 => ?_)
                          · skip
                            refine lv_iinc (v := nI (j + 1)) (lv' := [(5, .int (nI (j + 1))), (6, .int (nI d)), (4, .int (nI f3)), (0, .ref (q 0)), (1, .int (nI b0)), (2, .int (nI a0)), (3, .int (nI h0))]) hx hb dX3_reachAll_120 hl (k := 1) rfl (nI_add _ 1) (by decide) rfl (fun ls hl => ?_)
                            refine lv_goto (tgt := 71) hx hb dX3_reachAll_123 (by decide) ?_
                            exact ih71 (j + 1) f3 X3 (by omega) (by omega) (by rw [show 2 * (j + 1) = 2 * j + d by omega]; exact hf3) (by rw [show 2 * (j + 1) = 2 * j + d by omega]; exact hX3) _ _ hP hD hS ls (lv_sub hl [0, 2, 3, 4, 5, 6] rfl)
                          · skip
                            refine lv_aload_n hx hb dX3_reachAll_89 rfl (lv_at hl 3 rfl) ?_
                            refine lv_iload_n hx hb dX3_reachAll_90 rfl (lv_at hl 4 rfl) ?_
                            refine lv_iload hx hb dX3_reachAll_91 (lv_at hl 1 rfl) ?_
                            refine lv_iload hx hb dX3_reachAll_93 (lv_at hl 0 rfl) ?_
                            refine lv_iload_n hx hb dX3_reachAll_95 rfl (lv_at hl 6 rfl) ?_
                            refine wr_Vi (As := [.int (nI b0), .int (nI j), .int (nI d), .int (nI h0)]) (rest := []) ⟨hx, hb, hml, hown, hts⟩ (k_X3_lower l D q k S X3 _ b0 j d h0 hB hJ (by rw [hX3, upR_same]; exact (Okr.rnd hG (Okr.itr hG hOk tt) (2 * j + d) (by omega)).2) hb0 (by omega) (by omega) hh) (cwV 4 hts gX3_reachAll_X3_lower rfl rfl rfl (by decide +kernel) ⟨by decide, by decide⟩) hX hP hD hS hA (q0 := 0) rfl rfl rfl hl.1 rfl (Nat.le_of_ble_eq_true rfl) dX3_reachAll_96 ⟨by decide, by decide⟩ (fun r_2 u_2 H locs hw_2 hP hD hS => ?_)
                            obtain ⟨S_2, Z_2⟩ := u_2
                            obtain ⟨e1, e2, e3⟩ := hw_2
                            dsimp only at e2 e3 hP hD
                            rw [e2, e3] at hP hD
                            subst e1
                            have hP : va_P D vwCl (wM q k S (upR X3 1 (rlx S (opn S (S 11 b0) h0) (X3 1) (2 * j + d)))) H := hP
                            have hD : va_D A (wM q k S (upR X3 1 (rlx S (opn S (S 11 b0) h0) (X3 1) (2 * j + d)))) := hD
                            refine na_if_ne (tgt := 107) hx hb (bN_lt _) dX3_reachAll_99 (by decide) (fun h_99 => ?_) (fun h_99 => ?_)
                            · skip
                              refine lv_iconst (v := nI 1) hx hb dX3_reachAll_107 (by decide) ?_
                              refine lv_goto (tgt := 112) hx hb dX3_reachAll_108 (by decide) ?_
                              refine lv_istore (lv' := [(4, .int (nI 1)), (6, .int (nI d)), (5, .int (nI j)), (0, .ref (q 0)), (1, .int (nI b0)), (2, .int (nI a0)), (3, .int (nI h0))]) hx hb dX3_reachAll_112 hl (by decide) rfl (fun ls hl => ?_)
                              refine lv_iinc (v := nI (d + 1)) (lv' := [(6, .int (nI (d + 1))), (4, .int (nI 1)), (5, .int (nI j)), (0, .ref (q 0)), (1, .int (nI b0)), (2, .int (nI a0)), (3, .int (nI h0))]) hx hb dX3_reachAll_114 hl (k := 1) rfl (nI_add _ 1) (by decide) rfl (fun ls hl => ?_)
                              refine lv_goto (tgt := 83) hx hb dX3_reachAll_117 (by decide) ?_
                              exact ih83 (d + 1) 1 ((upR X3 1 (rlx S (opn S (S 11 b0) h0) (X3 1) (2 * j + d)))) (by omega) (by omega) (by rw [hX3, upR_same] at h_99; rw [show 2 * j + (d + 1) = 2 * j + d + 1 from rfl]; first | exact chg_y h_99 | exact chg_o hf3 h_104 | exact chg_z hf3 h_104 h_99) (by rw [hX3, upR_upR, upR_same]; rfl) _ _ hP hD hS ls (lv_sub hl [0, 2, 1, 3, 4, 5, 6] rfl)
                            · skip
                              refine lv_iload hx hb dX3_reachAll_102 (lv_at hl 2 rfl) ?_
                              refine na_if_eq (tgt := 111) hx hb (by rw [hf3]; exact bN_lt _) dX3_reachAll_104 (by decide) (fun h_104 => ?_) (fun h_104 => ?_)
                              · skip
                                refine lv_iconst (v := nI 0) hx hb dX3_reachAll_111 (by decide) ?_
                                refine lv_istore (lv' := [(4, .int (nI 0)), (6, .int (nI d)), (5, .int (nI j)), (0, .ref (q 0)), (1, .int (nI b0)), (2, .int (nI a0)), (3, .int (nI h0))]) hx hb dX3_reachAll_112 hl (by decide) rfl (fun ls hl => ?_)
                                refine lv_iinc (v := nI (d + 1)) (lv' := [(6, .int (nI (d + 1))), (4, .int (nI 0)), (5, .int (nI j)), (0, .ref (q 0)), (1, .int (nI b0)), (2, .int (nI a0)), (3, .int (nI h0))]) hx hb dX3_reachAll_114 hl (k := 1) rfl (nI_add _ 1) (by decide) rfl (fun ls hl => ?_)
                                refine lv_goto (tgt := 83) hx hb dX3_reachAll_117 (by decide) ?_
                                exact ih83 (d + 1) 0 ((upR X3 1 (rlx S (opn S (S 11 b0) h0) (X3 1) (2 * j + d)))) (by omega) (by omega) (by rw [hX3, upR_same] at h_99; rw [show 2 * j + (d + 1) = 2 * j + d + 1 from rfl]; first | exact chg_y h_99 | exact chg_o hf3 h_104 | exact chg_z hf3 h_104 h_99) (by rw [hX3, upR_upR, upR_same]; rfl) _ _ hP hD hS ls (lv_sub hl [0, 2, 1, 3, 4, 5, 6] rfl)
                              · skip
                                refine lv_iconst (v := nI 1) hx hb dX3_reachAll_107 (by decide) ?_
                                refine lv_goto (tgt := 112) hx hb dX3_reachAll_108 (by decide) ?_
                                refine lv_istore (lv' := [(4, .int (nI 1)), (6, .int (nI d)), (5, .int (nI j)), (0, .ref (q 0)), (1, .int (nI b0)), (2, .int (nI a0)), (3, .int (nI h0))]) hx hb dX3_reachAll_112 hl (by decide) rfl (fun ls hl => ?_)
                                refine lv_iinc (v := nI (d + 1)) (lv' := [(6, .int (nI (d + 1))), (4, .int (nI 1)), (5, .int (nI j)), (0, .ref (q 0)), (1, .int (nI b0)), (2, .int (nI a0)), (3, .int (nI h0))]) hx hb dX3_reachAll_114 hl (k := 1) rfl (nI_add _ 1) (by decide) rfl (fun ls hl => ?_)
                                refine lv_goto (tgt := 83) hx hb dX3_reachAll_117 (by decide) ?_
                                exact ih83 (d + 1) 1 ((upR X3 1 (rlx S (opn S (S 11 b0) h0) (X3 1) (2 * j + d)))) (by omega) (by omega) (by rw [hX3, upR_same] at h_99; rw [show 2 * j + (d + 1) = 2 * j + d + 1 from rfl]; first | exact chg_y h_99 | exact chg_o hf3 h_104 | exact chg_z hf3 h_104 h_99) (by rw [hX3, upR_upR, upR_same]; rfl) _ _ hP hD hS ls (lv_sub hl [0, 2, 1, 3, 4, 5, 6] rfl)
                      exact L83 3 0 f2 X2 (by omega) (by omega) hf2 hX2 _ _ hP hD hS ls hl
                exact L71 (S 0 1 + 1) 0 0 X (by omega) (by omega) rfl hX1 _ _ hP hD hS ls hl
          have hY2 := rs_A (S := S) (Z := Z) ha (by omega)
          rw [show i = 2 * S 0 0 by omega] at hY
          exact L60 42 0 1 ((up2 (up2 Y 1 ((2 * a0) + 1) 0) 1 (2 * a0) 0)) (by omega) (by omega) (Or.inl ⟨rfl, by omega⟩) (by rw [hY]; first | (rw [up2, up2, upR_upR, upR_upR, upR_same, upR_same]; exact congrArg (upR Z 1) (hY2.2 h_45)) | (rw [up2, upR_upR, upR_same]; exact congrArg (upR Z 1) (hY2.1 h_45))) _ _ hP hD hS ls hl
      · skip
        refine lv_aload_n hx hb dX3_reachAll_14 rfl (lv_at hl 1 rfl) ?_
        refine va_get (D := D) (v := .ref (q 14)) hx hb hts hin_X3 hown hX.1 hP 0 rfl rfl 20 (by decide) hf_50 (fun _ h9 => h9) rfl dX3_reachAll_15 ?_
        refine lv_iload hx hb dX3_reachAll_18 (lv_at hl 0 rfl) ?_
        refine lv_iconst (v := pI 0) hx hb dX3_reachAll_20 (by decide) ?_
        refine na_as (y := rI 1000000) rI_none.symm ?_
        refine na_iast hx hb hX.1 hP hD hS 14 0 rfl rfl (by omega) (by decide) (upd_enc rI _ _ _) dX3_reachAll_21 (fun H locs hP hD hS => ?_)
        have hP : va_P D vwCl (wM q k S (up2 Y 1 i 1000000)) H := hP
        have hD : va_D A (wM q k S (up2 Y 1 i 1000000)) := hD
        refine lv_iinc (v := nI (i + 1)) (lv' := [(4, .int (nI (i + 1))), (0, .ref (q 0)), (1, .int (nI b0)), (2, .int (nI a0)), (3, .int (nI h0))]) hx hb dX3_reachAll_22 hl (k := 0) rfl (nI_add _ 1) (by decide) rfl (fun ls hl => ?_)
        refine lv_goto (tgt := 3) hx hb dX3_reachAll_25 (by decide) ?_
        exact ih3 (i + 1) ((up2 Y 1 i 1000000)) (by omega) (by omega) (by rw [hY]; exact fillA_s Z 1 i 1000000) _ _ hP hD hS ls hl
  exact L3 (2 * S 0 0 + 1) 0 Z (by omega) (by omega) (fillA_0 Z 1 1000000) _ _ hP hD hS ls hl
end
section
set_option maxHeartbeats 4000000 in
set_option maxRecDepth 100000 in
theorem k_J7_fill_53178 (l : Launch) (D : va_G) (q : Nat → Nat) (k : Nat → ClassId) (r : Nat → Nat) (S Z : Nat → Nat → Nat) (sz : Nat) (v0 : Nat) : Met l yJ7_fill_53178 wsJ7_fill_53178 ({ frames := 0, cells := 0, slots := 0, locals := 0 } : Room) (va_Pc [.ref (q 16), .int (nI v0)] (wB D k (wC q k r S Z) sz)) (va_Qv (fun (u : (Nat → Nat → Nat) × (Nat → Nat → Nat)) => u.1 = S ∧ u.2 = upR Z 1 (fun _ => v0)) (fun u t => wE D (va_A (wC q k r S Z) sz) (wC q k r u.1 u.2) t) (va_A (wC q k r S Z) sz)) 0 0 (va_A (wC q k r S Z) sz) := by
  refine Met.ofW (cc := cJ7_fill_53178) (maxL := 4) (ret := none) (by decide) rfl ?_
  intro p e s m args below meth c s₁ B hml hv
  obtain ⟨rfl, hsz, hP, hX, hD0⟩ := hv
  have hx := B.exec
  have hb := B.bytes
  have hr := B.returns
  have hts := atoms_spec (ws := wsJ7_fill_53178) B.pre
  have hown : s.vm.findClass RJ7 = some m.cls := findClass_of_methodNamed B.named
  have hlocks := B.notSynchronized
  subst hsz
  have hD := hD0.self (sz := s.heap.size)
  generalize hAe : va_A (wC q k r S Z) s.heap.size = A at hD ⊢
  have hA : ∀ q : Nat, s.heap.size ≤ q → A q := fun q h => by rw [← hAe]; exact Or.inr h
  have hS : va_S A s.heap s.heap [] := va_S.rf
  have hP : va_P D vwCl (wC q k r S Z) s.heap := hP
  have hl := lv_entry ([.ref (q 16), .int (nI v0)]) (n := 4) (Nat.le_of_ble_eq_true rfl)
  rw [lg_entry_eq]
  generalize (lg_sl ([.ref (q 16), .int (nI v0)]) ++ List.replicate (4 - (lg_sl ([.ref (q 16), .int (nI v0)])).length) Slot.unset).toArray = ls at hl ⊢
  have hl : lv_has ls 4 [(0, .ref (q 16)), (1, .int (nI v0))] := hl
  refine lv_iconst (v := nI 0) hx hb dJ7_fill_53178_0 (by decide) ?_
  refine lv_istore_n (lv' := [(2, .int (nI 0)), (0, .ref (q 16)), (1, .int (nI v0))]) hx hb dJ7_fill_53178_1 rfl hl (by decide) rfl (fun ls hl => ?_)
  refine lv_aload_n hx hb dJ7_fill_53178_2 rfl (lv_at hl 1 rfl) ?_
  refine va_alen hx hb hX.1 hP 16 0 rfl rfl (v := nI 40) rfl dJ7_fill_53178_3 ?_
  refine lv_istore_n (lv' := [(3, .int (nI 40)), (2, .int (nI 0)), (0, .ref (q 16)), (1, .int (nI v0))]) hx hb dJ7_fill_53178_4 rfl hl (by decide) rfl (fun ls hl => ?_)
  have L5 : ∀ (n5 : Nat) (i : Nat) (Y : Nat → Nat → Nat), (40 < i + n5) → (h1 : i ≤ 40) → (hY : Y = upR Z 1 (fun j => if j < i then v0 else Z 1 j)) → ∀ (H : Heap) (locs : List Loc), va_P D vwCl (wC q k r S Y) H → va_D A (wC q k r S Y) → va_S A s.heap H locs → ∀ (ls : Array Slot), lv_has ls 4 [(3, .int (nI 40)), (2, .int (nI i)), (0, .ref (q 16)), (1, .int (nI v0))] → W p l e (headSpec wsJ7_fill_53178 ({ frames := 0, cells := 0, slots := 0, locals := 0 } : Room)).room s m [.ref (q 16), .int (nI v0)].toArray below meth c H locs 0 0 (MQ below (va_Qv (fun (u : (Nat → Nat → Nat) × (Nat → Nat → Nat)) => u.1 = S ∧ u.2 = upR Z 1 (fun _ => v0)) (fun u t => wE D (A) (wC q k r u.1 u.2) t) (A)) [.ref (q 16), .int (nI v0)].toArray s 0 0 A) (F0 m 5 ls []) := by
    intro n5
    induction n5 with
    | zero =>
      intro i Y hfuel5 h1 hY H locs hP hD hS ls hl
      exact absurd hfuel5 (by omega)
    | succ n5 ih5 =>
      intro i Y hfuel5 h1 hY H locs hP hD hS ls hl
      refine lv_iload_n hx hb dJ7_fill_53178_5 rfl (lv_at hl 1 rfl) ?_
      refine lv_iload_n hx hb dJ7_fill_53178_6 rfl (lv_at hl 0 rfl) ?_
      refine na_icmp_ge (tgt := 20) hx hb (by omega) (by omega) dJ7_fill_53178_7 (by decide) (fun h_7 => ?_) (fun h_7 => ?_)
      · skip
        rw [hY] at hP hD
        have hP : va_P D vwCl (wC q k r S (upR Z 1 (fun _ => v0))) H := va_P_int (i := 16) (g := fun _ => nI v0) hP rfl (fun j hj => congrArg nI (if_pos (show j < i by omega)))
        have hD : va_D A (wC q k r S (upR Z 1 (fun _ => v0))) := va_D_set (i := 16) (e' := .inl (k 0, 40, .inl (fun _ => nI v0))) hD rfl
        exact W.vret hx hb hr (fun t ht hW => ⟨⟨(S, upR Z 1 (fun _ => v0)), rfl, ⟨rfl, rfl⟩, by rw [ht]; exact hP, hD⟩, hS.F ht⟩) hS.2.2 dJ7_fill_53178_20
      · skip
        refine lv_aload_n hx hb dJ7_fill_53178_10 rfl (lv_at hl 2 rfl) ?_
        refine lv_iload_n hx hb dJ7_fill_53178_11 rfl (lv_at hl 1 rfl) ?_
        refine lv_iload_n hx hb dJ7_fill_53178_12 rfl (lv_at hl 3 rfl) ?_
        refine na_iast hx hb hX.1 hP hD hS 16 0 rfl rfl (by omega) (by decide) (upd_enc nI _ _ _) dJ7_fill_53178_13 (fun H locs hP hD hS => ?_)
        have hP : va_P D vwCl (wC q k r S (up2 Y 1 i v0)) H := hP
        have hD : va_D A (wC q k r S (up2 Y 1 i v0)) := hD
        refine lv_iinc (v := nI (i + 1)) (lv' := [(2, .int (nI (i + 1))), (3, .int (nI 40)), (0, .ref (q 16)), (1, .int (nI v0))]) hx hb dJ7_fill_53178_14 hl (k := 1) rfl (nI_add _ 1) (by decide) rfl (fun ls hl => ?_)
        refine lv_goto (tgt := 5) hx hb dJ7_fill_53178_17 (by decide) ?_
        exact ih5 (i + 1) ((up2 Y 1 i v0)) (by omega) (by omega) (by rw [hY]; exact fillA_s Z 1 i v0) _ _ hP hD hS ls (lv_sub hl [1, 0, 2, 3] rfl)
  exact L5 41 0 Z (by omega) (by omega) (fillA_0 Z 1 v0) _ _ hP hD hS ls hl

set_option maxHeartbeats 4000000 in
set_option maxRecDepth 100000 in
theorem k_X0_begin (l : Launch) (D : va_G) (q : Nat → Nat) (k : Nat → ClassId) (r : Nat → Nat) (S Z : Nat → Nat → Nat) (sz : Nat) (w0 : Nat) (h0 : Nat) (hB : Bd S) (hw : w0 ≤ 500) (hh : h0 < 24) : Met l yX0_begin wsX0_begin ({ frames := 1, cells := 0, slots := 0, locals := 24 } : Room) (va_Pc [.ref (q 2), .ref (q 1), .int (nI w0), .int (nI h0)] (wB D k (wC q k r S Z) sz)) (va_Qv (fun (u : (Nat → Nat → Nat) × (Nat → Nat → Nat)) => u.1 = S ∧ u.2 = upR Z 0 (fun j => if j < S 0 1 then bN (opn S w0 h0 j) else Z 0 j)) (fun u t => wE D (va_A (wC q k r S Z) sz) (wC q k r u.1 u.2) t) (va_A (wC q k r S Z) sz)) 0 0 (va_A (wC q k r S Z) sz) := by
  refine Met.ofW (cc := cX0_begin) (maxL := 5) (ret := none) (by decide) rfl ?_
  intro p e s m args below meth c s₁ B hml hv
  obtain ⟨rfl, hsz, hP, hX, hD0⟩ := hv
  have hx := B.exec
  have hb := B.bytes
  have hr := B.returns
  have hts := atoms_spec (ws := wsX0_begin) B.pre
  have hown : s.vm.findClass RX0 = some m.cls := findClass_of_methodNamed B.named
  have hlocks := B.notSynchronized
  subst hsz
  have hD := hD0.self (sz := s.heap.size)
  generalize hAe : va_A (wC q k r S Z) s.heap.size = A at hD ⊢
  have hA : ∀ q : Nat, s.heap.size ≤ q → A q := fun q h => by rw [← hAe]; exact Or.inr h
  have hS : va_S A s.heap s.heap [] := va_S.rf
  have hP : va_P D vwCl (wC q k r S Z) s.heap := hP
  have hf_9 := hts (.fieldLink RX0 9 "FloorGraph$Drive" "open" "[Z") (by decide +kernel)
  have hf_22 : (Cond.fieldLinkNest "FloorGraph$Drive" 22 "FloorGraph$Floor" "passages" "I" "FloorGraph").before _ s = true := va_Nw.use (A := [.ref (q 2), .ref (q 1), .int (nI w0), .int (nI h0)].toArray) rfl (hX.2.1 ("FloorGraph$Drive", 22, "FloorGraph$Floor", "passages", "I", "FloorGraph") (by decide +kernel))
  have hf_28 : (Cond.fieldLinkNest "FloorGraph$Drive" 28 "FloorGraph$Floor" "barred" "[Z" "FloorGraph").before _ s = true := va_Nw.use (A := [.ref (q 2), .ref (q 1), .int (nI w0), .int (nI h0)].toArray) rfl (hX.2.1 ("FloorGraph$Drive", 28, "FloorGraph$Floor", "barred", "[Z", "FloorGraph") (by decide +kernel))
  have hf_31 : (Cond.fieldLinkNest "FloorGraph$Drive" 31 "FloorGraph$Floor" "goals" "[I" "FloorGraph").before _ s = true := va_Nw.use (A := [.ref (q 2), .ref (q 1), .int (nI w0), .int (nI h0)].toArray) rfl (hX.2.1 ("FloorGraph$Drive", 31, "FloorGraph$Floor", "goals", "[I", "FloorGraph") (by decide +kernel))
  have hin_X0 : ∀ w ∈ u_ws RX0 TX0 3, w ∈ wsX0_begin := by decide +kernel
  have hin_X1 : ∀ w ∈ u_ws RX1 TX1 14, w ∈ wsX0_begin := by decide +kernel
  have f0 := hB.1
  have hl := lv_entry ([.ref (q 2), .ref (q 1), .int (nI w0), .int (nI h0)]) (n := 5) (Nat.le_of_ble_eq_true rfl)
  rw [lg_entry_eq]
  generalize (lg_sl ([.ref (q 2), .ref (q 1), .int (nI w0), .int (nI h0)]) ++ List.replicate (5 - (lg_sl ([.ref (q 2), .ref (q 1), .int (nI w0), .int (nI h0)])).length) Slot.unset).toArray = ls at hl ⊢
  have hl : lv_has ls 5 [(0, .ref (q 2)), (1, .ref (q 1)), (2, .int (nI w0)), (3, .int (nI h0))] := hl
  refine lv_iconst (v := nI 0) hx hb dX0_begin_0 (by decide) ?_
  refine lv_istore (lv' := [(4, .int (nI 0)), (0, .ref (q 2)), (1, .ref (q 1)), (2, .int (nI w0)), (3, .int (nI h0))]) hx hb dX0_begin_1 hl (by decide) rfl (fun ls hl => ?_)
  have L3 : ∀ (n3 : Nat) (i : Nat) (Y : Nat → Nat → Nat), (S 0 1 < i + n3) → (h1 : i ≤ S 0 1) → (hY : Y = upR Z 0 (fun j => if j < i then bN (opn S w0 h0 j) else Z 0 j)) → ∀ (H : Heap) (locs : List Loc), va_P D vwCl (wC q k r S Y) H → va_D A (wC q k r S Y) → va_S A s.heap H locs → ∀ (ls : Array Slot), lv_has ls 5 [(4, .int (nI i)), (0, .ref (q 2)), (1, .ref (q 1)), (2, .int (nI w0)), (3, .int (nI h0))] → W p l e (headSpec wsX0_begin ({ frames := 1, cells := 0, slots := 0, locals := 24 } : Room)).room s m [.ref (q 2), .ref (q 1), .int (nI w0), .int (nI h0)].toArray below meth c H locs 0 0 (MQ below (va_Qv (fun (u : (Nat → Nat → Nat) × (Nat → Nat → Nat)) => u.1 = S ∧ u.2 = upR Z 0 (fun j => if j < S 0 1 then bN (opn S w0 h0 j) else Z 0 j)) (fun u t => wE D (A) (wC q k r u.1 u.2) t) (A)) [.ref (q 2), .ref (q 1), .int (nI w0), .int (nI h0)].toArray s 0 0 A) (F0 m 3 ls []) := by
    intro n3
    induction n3 with
    | zero =>
      intro i Y hfuel3 h1 hY H locs hP hD hS ls hl
      exact absurd hfuel3 (by omega)
    | succ n3 ih3 =>
      intro i Y hfuel3 h1 hY H locs hP hD hS ls hl
      refine lv_iload hx hb dX0_begin_3 (lv_at hl 0 rfl) ?_
      refine lv_aload_n hx hb dX0_begin_5 rfl (lv_at hl 2 rfl) ?_
      refine va_getN (D := D) (v := .int (nI (S 0 1))) hx hb hts hin_X1 hown hX.1 hP 1 rfl rfl 7 (by decide) hf_22 (fun _ h9 => h9) rfl dX0_begin_6 ?_
      refine na_icmp_ge (tgt := 56) hx hb (by omega) (by omega) dX0_begin_9 (by decide) (fun h_9 => ?_) (fun h_9 => ?_)
      · skip
        exact W.vret hx hb hr (fun t ht hW => ⟨⟨(S, Y), rfl, ⟨rfl, by rw [hY, show i = S 0 1 by omega]⟩, by rw [ht]; exact hP, hD⟩, hS.F ht⟩) hS.2.2 dX0_begin_56
      · skip
        have f8 := hB.2.2.2.1 i h_9
        have f10 := hB.2.2.1 i
        refine lv_aload_n hx hb dX0_begin_12 rfl (lv_at hl 1 rfl) ?_
        refine va_get (D := D) (v := .ref (q 15)) hx hb hts hin_X0 hown hX.1 hP 2 rfl rfl 0 (by decide) hf_9 (fun _ h9 => h9) rfl dX0_begin_13 ?_
        refine lv_iload hx hb dX0_begin_16 (lv_at hl 0 rfl) ?_
        refine lv_aload_n hx hb dX0_begin_18 rfl (lv_at hl 2 rfl) ?_
        refine va_getN (D := D) (v := .ref (q 12)) hx hb hts hin_X1 hown hX.1 hP 1 rfl rfl 11 (by decide) hf_28 (fun _ h9 => h9) rfl dX0_begin_19 ?_
        refine lv_iload hx hb dX0_begin_22 (lv_at hl 0 rfl) ?_
        refine na_zald hx hb hX.1 hP 12 1 rfl rfl (by omega) (by decide) dX0_begin_24 ?_
        refine na_if_ne (tgt := 48) hx hb (by omega) dX0_begin_25 (by decide) (fun h_25 => ?_) (fun h_25 => ?_)
        · skip
          refine lv_iconst (v := nI 0) hx hb dX0_begin_48 (by decide) ?_
          refine na_zast hx hb hX.1 hP hD hS 15 1 rfl rfl (by omega) (by omega) (by decide) (upd_enc nI _ _ _) dX0_begin_49 (fun H locs hP hD hS => ?_)
          have hP : va_P D vwCl (wC q k r S (up2 Y 0 i 0)) H := hP
          have hD : va_D A (wC q k r S (up2 Y 0 i 0)) := hD
          refine lv_iinc (v := nI (i + 1)) (lv' := [(4, .int (nI (i + 1))), (0, .ref (q 2)), (1, .ref (q 1)), (2, .int (nI w0)), (3, .int (nI h0))]) hx hb dX0_begin_50 hl (k := 0) rfl (nI_add _ 1) (by decide) rfl (fun ls hl => ?_)
          refine lv_goto (tgt := 3) hx hb dX0_begin_53 (by decide) ?_
          exact ih3 (i + 1) ((up2 Y 0 i 0)) (by omega) (by omega) (by rw [hY]; exact fillG_s Z 0 i (fun j => bN (opn S w0 h0 j)) (by first | (rw [opn_def, bN_pos h_41, decide_eq_true h_25]; rfl) | (rw [opn_def, decide_eq_false (show ¬ S 10 i = 0 by omega)]; rfl) | (rw [opn_def, bN_zero h_41, Bool.and_false]; rfl))) _ _ hP hD hS ls hl
        · skip
          refine lv_aload_n hx hb dX0_begin_28 rfl (lv_at hl 2 rfl) ?_
          refine lv_aload_n hx hb dX0_begin_29 rfl (lv_at hl 2 rfl) ?_
          refine va_getN (D := D) (v := .ref (q 10)) hx hb hts hin_X1 hown hX.1 hP 1 rfl rfl 9 (by decide) hf_31 (fun _ h9 => h9) rfl dX0_begin_30 ?_
          refine lv_iload hx hb dX0_begin_33 (lv_at hl 0 rfl) ?_
          refine na_iald hx hb hX.1 hP 10 0 rfl rfl (by omega) (by decide) dX0_begin_35 ?_
          refine lv_iload_n hx hb dX0_begin_36 rfl (lv_at hl 3 rfl) ?_
          refine lv_iload_n hx hb dX0_begin_37 rfl (lv_at hl 4 rfl) ?_
          refine rd_N (As := [.int (nI (S 8 i)), .int (nI w0), .int (nI h0)]) (rest := [.int (nI i), .ref (q 15)]) ⟨hx, hb, hml, hown, hts⟩ (k_X1_mayEnter l D q k r S Y (S 8 i) w0 h0 hB (by omega) hw hh) ⟨va_cnB 3 hts gX0_begin_X1_mayEnter_n34 rfl rfl rfl (hX.2.2 ("FloorGraph$Drive", 34, yX1_mayEnter) (by decide +kernel)) (hts (.initialized RX1) (by decide +kernel)) (by decide +kernel) ⟨by decide, by decide⟩, hts (.instanceMethod yX1_mayEnter) (by decide +kernel), hts (.selects RX1 yX1_mayEnter yX1_mayEnter) (by decide +kernel)⟩ hX hP (q0 := 1) rfl rfl rfl hl.1 rfl (Nat.le_of_ble_eq_true rfl) dX0_begin_38 ⟨Nat.zero_le _, Nat.zero_le _⟩ ?_
          refine na_if_eq (tgt := 48) hx hb (bN_lt _) dX0_begin_41 (by decide) (fun h_41 => ?_) (fun h_41 => ?_)
          · skip
            refine lv_iconst (v := nI 0) hx hb dX0_begin_48 (by decide) ?_
            refine na_zast hx hb hX.1 hP hD hS 15 1 rfl rfl (by omega) (by omega) (by decide) (upd_enc nI _ _ _) dX0_begin_49 (fun H locs hP hD hS => ?_)
            have hP : va_P D vwCl (wC q k r S (up2 Y 0 i 0)) H := hP
            have hD : va_D A (wC q k r S (up2 Y 0 i 0)) := hD
            refine lv_iinc (v := nI (i + 1)) (lv' := [(4, .int (nI (i + 1))), (0, .ref (q 2)), (1, .ref (q 1)), (2, .int (nI w0)), (3, .int (nI h0))]) hx hb dX0_begin_50 hl (k := 0) rfl (nI_add _ 1) (by decide) rfl (fun ls hl => ?_)
            refine lv_goto (tgt := 3) hx hb dX0_begin_53 (by decide) ?_
            exact ih3 (i + 1) ((up2 Y 0 i 0)) (by omega) (by omega) (by rw [hY]; exact fillG_s Z 0 i (fun j => bN (opn S w0 h0 j)) (by first | (rw [opn_def, bN_pos h_41, decide_eq_true h_25]; rfl) | (rw [opn_def, decide_eq_false (show ¬ S 10 i = 0 by omega)]; rfl) | (rw [opn_def, bN_zero h_41, Bool.and_false]; rfl))) _ _ hP hD hS ls hl
          · skip
            refine lv_iconst (v := nI 1) hx hb dX0_begin_44 (by decide) ?_
            refine lv_goto (tgt := 49) hx hb dX0_begin_45 (by decide) ?_
            refine na_zast hx hb hX.1 hP hD hS 15 1 rfl rfl (by omega) (by omega) (by decide) (upd_enc nI _ _ _) dX0_begin_49 (fun H locs hP hD hS => ?_)
            have hP : va_P D vwCl (wC q k r S (up2 Y 0 i 1)) H := hP
            have hD : va_D A (wC q k r S (up2 Y 0 i 1)) := hD
            refine lv_iinc (v := nI (i + 1)) (lv' := [(4, .int (nI (i + 1))), (0, .ref (q 2)), (1, .ref (q 1)), (2, .int (nI w0)), (3, .int (nI h0))]) hx hb dX0_begin_50 hl (k := 0) rfl (nI_add _ 1) (by decide) rfl (fun ls hl => ?_)
            refine lv_goto (tgt := 3) hx hb dX0_begin_53 (by decide) ?_
            exact ih3 (i + 1) ((up2 Y 0 i 1)) (by omega) (by omega) (by rw [hY]; exact fillG_s Z 0 i (fun j => bN (opn S w0 h0 j)) (by first | (rw [opn_def, bN_pos h_41, decide_eq_true h_25]; rfl) | (rw [opn_def, decide_eq_false (show ¬ S 10 i = 0 by omega)]; rfl) | (rw [opn_def, bN_zero h_41, Bool.and_false]; rfl))) _ _ hP hD hS ls hl
  exact L3 (S 0 1 + 1) 0 Z (by omega) (by omega) (fillG_0 Z 0 (fun j => bN (opn S w0 h0 j))) _ _ hP hD hS ls hl

set_option maxHeartbeats 4000000 in
set_option maxRecDepth 100000 in
theorem k_X0_spreadOnce (l : Launch) (D : va_G) (q : Nat → Nat) (k : Nat → ClassId) (r : Nat → Nat) (S Z : Nat → Nat → Nat) (sz : Nat) (hB : Bd S) (hZ1 : ∀ e, Z 1 e ≤ 1000000) (hZ0 : ∀ p, Z 0 p ≤ 1) : Met l yX0_spreadOnce wsX0_spreadOnce ({ frames := 2, cells := 0, slots := 0, locals := 46 } : Room) (va_Pc [.ref (q 2), .ref (q 1)] (wB D k (wC q k r S Z) sz)) (va_Qi (fun (r : Int32) (u : (Nat → Nat → Nat) × (Nat → Nat → Nat)) => r = nI (bN (chg S (oZ Z) (Z 1) (S 0 1))) ∧ u.1 = S ∧ u.2 = upR Z 1 (rnd S (oZ Z) (Z 1) (S 0 1))) (fun u t => wE D (va_A (wC q k r S Z) sz) (wC q k r u.1 u.2) t) (va_A (wC q k r S Z) sz)) 0 0 (va_A (wC q k r S Z) sz) := by
  refine Met.ofW (cc := cX0_spreadOnce) (maxL := 6) (ret := (some .boolean)) (by decide) rfl ?_
  intro p e s m args below meth c s₁ B hml hv
  obtain ⟨rfl, hsz, hP, hX, hD0⟩ := hv
  have hx := B.exec
  have hb := B.bytes
  have hr := B.returns
  have hts := atoms_spec (ws := wsX0_spreadOnce) B.pre
  have hown : s.vm.findClass RX0 = some m.cls := findClass_of_methodNamed B.named
  have hlocks := B.notSynchronized
  subst hsz
  have hD := hD0.self (sz := s.heap.size)
  generalize hAe : va_A (wC q k r S Z) s.heap.size = A at hD ⊢
  have hA : ∀ q : Nat, s.heap.size ≤ q → A q := fun q h => by rw [← hAe]; exact Or.inr h
  have hS : va_S A s.heap s.heap [] := va_S.rf
  have hP : va_P D vwCl (wC q k r S Z) s.heap := hP
  have hf_15 := hts (.fieldLink RX0 15 "FloorGraph$Drive" "reached" "[I") (by decide +kernel)
  have hf_22 : (Cond.fieldLinkNest "FloorGraph$Drive" 22 "FloorGraph$Floor" "passages" "I" "FloorGraph").before _ s = true := va_Nw.use (A := [.ref (q 2), .ref (q 1)].toArray) rfl (hX.2.1 ("FloorGraph$Drive", 22, "FloorGraph$Floor", "passages", "I", "FloorGraph") (by decide +kernel))
  have hf_31 : (Cond.fieldLinkNest "FloorGraph$Drive" 31 "FloorGraph$Floor" "goals" "[I" "FloorGraph").before _ s = true := va_Nw.use (A := [.ref (q 2), .ref (q 1)].toArray) rfl (hX.2.1 ("FloorGraph$Drive", 31, "FloorGraph$Floor", "goals", "[I", "FloorGraph") (by decide +kernel))
  have hin_X0 : ∀ w ∈ u_ws RX0 TX0 3, w ∈ wsX0_spreadOnce := by decide +kernel
  have hin_X1 : ∀ w ∈ u_ws RX1 TX1 14, w ∈ wsX0_spreadOnce := by decide +kernel
  have f0 := hB.1
  have hl := lv_entry ([.ref (q 2), .ref (q 1)]) (n := 6) (Nat.le_of_ble_eq_true rfl)
  rw [lg_entry_eq]
  generalize (lg_sl ([.ref (q 2), .ref (q 1)]) ++ List.replicate (6 - (lg_sl ([.ref (q 2), .ref (q 1)])).length) Slot.unset).toArray = ls at hl ⊢
  have hl : lv_has ls 6 [(0, .ref (q 2)), (1, .ref (q 1))] := hl
  refine lv_iconst (v := nI 0) hx hb dX0_spreadOnce_0 (by decide) ?_
  refine lv_istore_n (lv' := [(2, .int (nI 0)), (0, .ref (q 2)), (1, .ref (q 1))]) hx hb dX0_spreadOnce_1 rfl hl (by decide) rfl (fun ls hl => ?_)
  refine lv_iconst (v := nI 0) hx hb dX0_spreadOnce_2 (by decide) ?_
  refine lv_istore_n (lv' := [(3, .int (nI 0)), (2, .int (nI 0)), (0, .ref (q 2)), (1, .ref (q 1))]) hx hb dX0_spreadOnce_3 rfl hl (by decide) rfl (fun ls hl => ?_)
  have L4 : ∀ (n4 : Nat) (i : Nat) (f : Nat) (Y : Nat → Nat → Nat), (S 0 1 < i + n4) → (h1 : i ≤ S 0 1) → (hf : f = bN (chg S (oZ Z) (Z 1) i)) → (hY : Y = upR Z 1 (rnd S (oZ Z) (Z 1) i)) → ∀ (H : Heap) (locs : List Loc), va_P D vwCl (wC q k r S Y) H → va_D A (wC q k r S Y) → va_S A s.heap H locs → ∀ (ls : Array Slot), lv_has ls 6 [(3, .int (nI i)), (2, .int (nI f)), (0, .ref (q 2)), (1, .ref (q 1))] → W p l e (headSpec wsX0_spreadOnce ({ frames := 2, cells := 0, slots := 0, locals := 46 } : Room)).room s m [.ref (q 2), .ref (q 1)].toArray below meth c H locs 0 0 (MQ below (va_Qi (fun (r : Int32) (u : (Nat → Nat → Nat) × (Nat → Nat → Nat)) => r = nI (bN (chg S (oZ Z) (Z 1) (S 0 1))) ∧ u.1 = S ∧ u.2 = upR Z 1 (rnd S (oZ Z) (Z 1) (S 0 1))) (fun u t => wE D (A) (wC q k r u.1 u.2) t) (A)) [.ref (q 2), .ref (q 1)].toArray s 0 0 A) (F0 m 4 ls []) := by
    intro n4
    induction n4 with
    | zero =>
      intro i f Y hfuel4 h1 hf hY H locs hP hD hS ls hl
      exact absurd hfuel4 (by omega)
    | succ n4 ih4 =>
      intro i f Y hfuel4 h1 hf hY H locs hP hD hS ls hl
      have hY1 : Y 1 = rnd S (oZ Z) (Z 1) i := by rw [hY, upR_same]
      have hY0 : oZ Y = oZ Z := by rw [hY]; rfl
      have hl1 : ∀ e, Y 1 e ≤ 1000000 := fun e => by rw [hY1]; exact Nat.le_trans (rnd_mono S (oZ Z) (Z 1) e (Nat.zero_le i)) (hZ1 e)
      have hl0 : ∀ p, Y 0 p ≤ 1 := fun p => by rw [hY]; exact hZ0 p
      refine lv_iload_n hx hb dX0_spreadOnce_4 rfl (lv_at hl 0 rfl) ?_
      refine lv_aload_n hx hb dX0_spreadOnce_5 rfl (lv_at hl 3 rfl) ?_
      refine va_getN (D := D) (v := .int (nI (S 0 1))) hx hb hts hin_X1 hown hX.1 hP 1 rfl rfl 7 (by decide) hf_22 (fun _ h9 => h9) rfl dX0_spreadOnce_6 ?_
      refine na_icmp_ge (tgt := 59) hx hb (by omega) (by omega) dX0_spreadOnce_9 (by decide) (fun h_9 => ?_) (fun h_9 => ?_)
      · skip
        refine lv_iload_n hx hb dX0_spreadOnce_59 rfl (lv_at hl 1 rfl) ?_
        exact W.zret (v := nI f) hx hb hr (nar_b _ (by rw [hf]; exact bN_le _)) (fun t ht hW => ⟨⟨_, (S, Y), rfl, ⟨by rw [hf, show i = S 0 1 by omega], rfl, by rw [hY, show i = S 0 1 by omega]⟩, by rw [ht]; exact hP, hD⟩, hS.F ht⟩) hS.2.2 dX0_spreadOnce_60
      · skip
        have f8 := hB.2.2.2.1 i h_9
        have ff0 : fl (S 8 i) < 2 * 20 := fl_lt (by omega)
        have fs := sBh_le (fun p => (hB.2.2.1 p).1) (fun i => (hB.2.1 i).2.1) hl1 (o := oZ Y) i
        have fe := hl1 (fl (S 8 i))
        refine lv_aload_n hx hb dX0_spreadOnce_12 rfl (lv_at hl 3 rfl) ?_
        refine va_getN (D := D) (v := .ref (q 10)) hx hb hts hin_X1 hown hX.1 hP 1 rfl rfl 9 (by decide) hf_31 (fun _ h9 => h9) rfl dX0_spreadOnce_13 ?_
        refine lv_iload_n hx hb dX0_spreadOnce_16 rfl (lv_at hl 0 rfl) ?_
        refine na_iald hx hb hX.1 hP 10 0 rfl rfl (by omega) (by decide) dX0_spreadOnce_17 ?_
        refine lv_iconst (v := nI 1) hx hb dX0_spreadOnce_18 (by decide) ?_
        refine na_ixor1 hx hb (by omega) dX0_spreadOnce_19 ?_
        refine lv_istore (lv' := [(4, .int (nI (fl (S 8 i)))), (3, .int (nI i)), (2, .int (nI f)), (0, .ref (q 2)), (1, .ref (q 1))]) hx hb dX0_spreadOnce_20 hl (by decide) rfl (fun ls hl => ?_)
        refine lv_aload_n hx hb dX0_spreadOnce_22 rfl (lv_at hl 3 rfl) ?_
        refine lv_aload_n hx hb dX0_spreadOnce_23 rfl (lv_at hl 4 rfl) ?_
        refine lv_iload_n hx hb dX0_spreadOnce_24 rfl (lv_at hl 1 rfl) ?_
        refine rd_V (As := [.ref (q 1), .int (nI i)]) (rest := []) ⟨hx, hb, hml, hown, hts⟩ (k_X0_secondBehind l D q k r S Y i hB hl1 hl0 h_9) (cwV 2 hts gX0_spreadOnce_X0_secondBehind rfl rfl rfl (by decide +kernel) ⟨by decide, by decide⟩) hX hP (q0 := 2) rfl rfl rfl hl.1 rfl (Nat.le_of_ble_eq_true rfl) dX0_spreadOnce_25 ⟨Nat.zero_le _, Nat.zero_le _⟩ ?_
        refine lv_istore (lv' := [(5, .int (nI (sBh S (oZ Y) (Y 1) i))), (4, .int (nI (fl (S 8 i)))), (3, .int (nI i)), (2, .int (nI f)), (0, .ref (q 2)), (1, .ref (q 1))]) hx hb dX0_spreadOnce_28 hl (by decide) rfl (fun ls hl => ?_)
        refine lv_iload hx hb dX0_spreadOnce_30 (lv_at hl 0 rfl) ?_
        refine lv_aload_n hx hb dX0_spreadOnce_32 rfl (lv_at hl 4 rfl) ?_
        refine va_get (D := D) (v := .ref (q 16)) hx hb hts hin_X0 hown hX.1 hP 2 rfl rfl 1 (by decide) hf_15 (fun _ h9 => h9) rfl dX0_spreadOnce_33 ?_
        refine lv_iload hx hb dX0_spreadOnce_36 (lv_at hl 1 rfl) ?_
        refine na_iald hx hb hX.1 hP 16 0 rfl rfl (by omega) (by decide) dX0_spreadOnce_38 ?_
        refine na_icmp_ge (tgt := 53) hx hb (by omega) (by omega) dX0_spreadOnce_39 (by decide) (fun h_39 => ?_) (fun h_39 => ?_)
        · skip
          refine lv_iinc (v := nI (i + 1)) (lv' := [(3, .int (nI (i + 1))), (5, .int (nI (sBh S (oZ Y) (Y 1) i))), (4, .int (nI (fl (S 8 i)))), (2, .int (nI f)), (0, .ref (q 2)), (1, .ref (q 1))]) hx hb dX0_spreadOnce_53 hl (k := 2) rfl (nI_add _ 1) (by decide) rfl (fun ls hl => ?_)
          refine lv_goto (tgt := 4) hx hb dX0_spreadOnce_56 (by decide) ?_
          rw [hY0, hY1] at h_39
          exact ih4 (i + 1) f Y (by omega) (by omega) (by first | (rw [chg_s, decide_eq_true h_39, Bool.or_true]; rfl) | (rw [chg_s, decide_eq_false (show ¬ sBh S (oZ Z) (rnd S (oZ Z) (Z 1) i) i < rnd S (oZ Z) (Z 1) i (fl (S 8 i)) by omega), Bool.or_false]; exact hf)) (by first | (rw [up2, hY0, hY1, hY, upR_upR]; exact congrArg (upR Z 1) (if_pos h_39).symm) | (rw [hY]; exact congrArg (upR Z 1) (if_neg (by omega)).symm)) _ _ hP hD hS ls (lv_sub hl [0, 3, 4, 5] rfl)
        · skip
          refine lv_aload_n hx hb dX0_spreadOnce_42 rfl (lv_at hl 4 rfl) ?_
          refine va_get (D := D) (v := .ref (q 16)) hx hb hts hin_X0 hown hX.1 hP 2 rfl rfl 1 (by decide) hf_15 (fun _ h9 => h9) rfl dX0_spreadOnce_43 ?_
          refine lv_iload hx hb dX0_spreadOnce_46 (lv_at hl 1 rfl) ?_
          refine lv_iload hx hb dX0_spreadOnce_48 (lv_at hl 0 rfl) ?_
          refine na_iast hx hb hX.1 hP hD hS 16 0 rfl rfl (by omega) (by decide) (upd_enc nI _ _ _) dX0_spreadOnce_50 (fun H locs hP hD hS => ?_)
          have hP : va_P D vwCl (wC q k r S (up2 Y 1 (fl (S 8 i)) (sBh S (oZ Y) (Y 1) i))) H := hP
          have hD : va_D A (wC q k r S (up2 Y 1 (fl (S 8 i)) (sBh S (oZ Y) (Y 1) i))) := hD
          refine lv_iconst (v := nI 1) hx hb dX0_spreadOnce_51 (by decide) ?_
          refine lv_istore_n (lv' := [(2, .int (nI 1)), (5, .int (nI (sBh S (oZ Y) (Y 1) i))), (4, .int (nI (fl (S 8 i)))), (3, .int (nI i)), (0, .ref (q 2)), (1, .ref (q 1))]) hx hb dX0_spreadOnce_52 rfl hl (by decide) rfl (fun ls hl => ?_)
          refine lv_iinc (v := nI (i + 1)) (lv' := [(3, .int (nI (i + 1))), (2, .int (nI 1)), (5, .int (nI (sBh S (oZ Y) (Y 1) i))), (4, .int (nI (fl (S 8 i)))), (0, .ref (q 2)), (1, .ref (q 1))]) hx hb dX0_spreadOnce_53 hl (k := 3) rfl (nI_add _ 1) (by decide) rfl (fun ls hl => ?_)
          refine lv_goto (tgt := 4) hx hb dX0_spreadOnce_56 (by decide) ?_
          rw [hY0, hY1] at h_39
          exact ih4 (i + 1) 1 ((up2 Y 1 (fl (S 8 i)) (sBh S (oZ Y) (Y 1) i))) (by omega) (by omega) (by first | (rw [chg_s, decide_eq_true h_39, Bool.or_true]; rfl) | (rw [chg_s, decide_eq_false (show ¬ sBh S (oZ Z) (rnd S (oZ Z) (Z 1) i) i < rnd S (oZ Z) (Z 1) i (fl (S 8 i)) by omega), Bool.or_false]; exact hf)) (by first | (rw [up2, hY0, hY1, hY, upR_upR]; exact congrArg (upR Z 1) (if_pos h_39).symm) | (rw [hY]; exact congrArg (upR Z 1) (if_neg (by omega)).symm)) _ _ hP hD hS ls (lv_sub hl [0, 1, 4, 5] rfl)
  exact L4 (S 0 1 + 1) 0 0 Z (by omega) (by omega) rfl (upR_id Z 1).symm _ _ hP hD hS ls hl

set_option maxHeartbeats 4000000 in
set_option maxRecDepth 100000 in
theorem k_X0_spread (l : Launch) (D : va_G) (q : Nat → Nat) (k : Nat → ClassId) (r : Nat → Nat) (S Z : Nat → Nat → Nat) (sz : Nat) (a0 : Nat) (hB : Bd S) (hZ0 : ∀ p, Z 0 p ≤ 1) (hG : Gr S (2 * S 0 0)) (ha : a0 < S 0 0) : Met l yX0_spread wsX0_spread ({ frames := 3, cells := 0, slots := 0, locals := 71 } : Room) (va_Pc [.ref (q 2), .ref (q 1), .int (nI a0)] (wB D k (wC q k r S Z) sz)) (va_Qv (fun (u : (Nat → Nat → Nat) × (Nat → Nat → Nat)) => u.1 = S ∧ u.2 = upR Z 1 (itr S (oZ Z) (rs S a0 (fun _ => 1000000)) 40)) (fun u t => wE D (va_A (wC q k r S Z) sz) (wC q k r u.1 u.2) t) (va_A (wC q k r S Z) sz)) 0 0 (va_A (wC q k r S Z) sz) := by
  refine Met.ofW (cc := cX0_spread) (maxL := 5) (ret := none) (by decide) rfl ?_
  intro p e s m args below meth c s₁ B hml hv
  obtain ⟨rfl, hsz, hP, hX, hD0⟩ := hv
  have hx := B.exec
  have hb := B.bytes
  have hr := B.returns
  have hts := atoms_spec (ws := wsX0_spread) B.pre
  have hown : s.vm.findClass RX0 = some m.cls := findClass_of_methodNamed B.named
  have hlocks := B.notSynchronized
  subst hsz
  have hD := hD0.self (sz := s.heap.size)
  generalize hAe : va_A (wC q k r S Z) s.heap.size = A at hD ⊢
  have hA : ∀ q : Nat, s.heap.size ≤ q → A q := fun q h => by rw [← hAe]; exact Or.inr h
  have hS : va_S A s.heap s.heap [] := va_S.rf
  have hP : va_P D vwCl (wC q k r S Z) s.heap := hP
  have hf_15 := hts (.fieldLink RX0 15 "FloorGraph$Drive" "reached" "[I") (by decide +kernel)
  have hin_X0 : ∀ w ∈ u_ws RX0 TX0 3, w ∈ wsX0_spread := by decide +kernel
  have f0 := hB.1
  have hOk := rs_Okr (o := oZ Z) (S := S) (a := a0) Rb_nv
  have hl := lv_entry ([.ref (q 2), .ref (q 1), .int (nI a0)]) (n := 5) (Nat.le_of_ble_eq_true rfl)
  rw [lg_entry_eq]
  generalize (lg_sl ([.ref (q 2), .ref (q 1), .int (nI a0)]) ++ List.replicate (5 - (lg_sl ([.ref (q 2), .ref (q 1), .int (nI a0)])).length) Slot.unset).toArray = ls at hl ⊢
  have hl : lv_has ls 5 [(0, .ref (q 2)), (1, .ref (q 1)), (2, .int (nI a0))] := hl
  refine lv_aload_n hx hb dX0_spread_0 rfl (lv_at hl 0 rfl) ?_
  refine va_get (D := D) (v := .ref (q 16)) hx hb hts hin_X0 hown hX.1 hP 2 rfl rfl 1 (by decide) hf_15 (fun _ h9 => h9) rfl dX0_spread_1 ?_
  refine lv_ldc (v := nI 1000000) hx hb hown (hts (.constant RX0 38 (1000000)) (by decide +kernel)) dX0_spread_4 ?_
  refine wr_Sv (As := [.ref (q 16), .int (nI 1000000)]) (rest := []) ⟨hx, hb, hml, hown, hts⟩ (k_J7_fill_53178 l D q k r S Z _ 1000000 ) (va_cwS 2 hts gX0_spread_J7_fill_53178 rfl rfl rfl (by decide +kernel) ⟨by decide, by decide⟩) hX hP hD hS hA rfl hl.1 rfl (Nat.le_of_ble_eq_true rfl) dX0_spread_6 ⟨by decide, by decide⟩ (fun u_1 H locs hw_1 hP hD hS => ?_)
  obtain ⟨S_1, Z_1⟩ := u_1
  obtain ⟨e1, e2⟩ := hw_1
  dsimp only at e1 e2 hP hD
  rw [e1, e2] at hP hD
  have hP : va_P D vwCl (wC q k r S (upR Z 1 (fun _ => 1000000))) H := hP
  have hD : va_D A (wC q k r S (upR Z 1 (fun _ => 1000000))) := hD
  refine lv_iconst (v := nI 2) hx hb dX0_spread_9 (by decide) ?_
  refine lv_iload_n hx hb dX0_spread_10 rfl (lv_at hl 2 rfl) ?_
  refine na_imul hx hb dX0_spread_11 ?_
  refine lv_istore_n (lv' := [(3, .int (nI (2 * a0))), (0, .ref (q 2)), (1, .ref (q 1)), (2, .int (nI a0))]) hx hb dX0_spread_12 rfl hl (by decide) rfl (fun ls hl => ?_)
  have L13 : ∀ (n13 : Nat) (i : Nat) (Y : Nat → Nat → Nat), (2 * a0 + 2 < i + n13) → (h1 : i ≤ 2 * a0 + 2) → (h2 : 2 * a0 ≤ i) → (hY : Y = upR Z 1 (rG S a0 i)) → ∀ (H : Heap) (locs : List Loc), va_P D vwCl (wC q k r S Y) H → va_D A (wC q k r S Y) → va_S A s.heap H locs → ∀ (ls : Array Slot), lv_has ls 5 [(3, .int (nI i)), (0, .ref (q 2)), (1, .ref (q 1)), (2, .int (nI a0))] → W p l e (headSpec wsX0_spread ({ frames := 3, cells := 0, slots := 0, locals := 71 } : Room)).room s m [.ref (q 2), .ref (q 1), .int (nI a0)].toArray below meth c H locs 0 0 (MQ below (va_Qv (fun (u : (Nat → Nat → Nat) × (Nat → Nat → Nat)) => u.1 = S ∧ u.2 = upR Z 1 (itr S (oZ Z) (rs S a0 (fun _ => 1000000)) 40)) (fun u t => wE D (A) (wC q k r u.1 u.2) t) (A)) [.ref (q 2), .ref (q 1), .int (nI a0)].toArray s 0 0 A) (F0 m 13 ls []) := by
    intro n13
    induction n13 with
    | zero =>
      intro i Y hfuel13 h1 h2 hY H locs hP hD hS ls hl
      exact absurd hfuel13 (by omega)
    | succ n13 ih13 =>
      intro i Y hfuel13 h1 h2 hY H locs hP hD hS ls hl
      refine lv_iload_n hx hb dX0_spread_13 rfl (lv_at hl 0 rfl) ?_
      refine lv_iconst (v := nI 2) hx hb dX0_spread_14 (by decide) ?_
      refine lv_iload_n hx hb dX0_spread_15 rfl (lv_at hl 3 rfl) ?_
      refine na_imul hx hb dX0_spread_16 ?_
      refine lv_iconst (v := nI 1) hx hb dX0_spread_17 (by decide) ?_
      refine na_iadd hx hb dX0_spread_18 ?_
      refine na_icmp_gt (tgt := 43) hx hb (by omega) (by omega) dX0_spread_19 (by decide) (fun h_19 => ?_) (fun h_19 => ?_)
      · skip
        refine lv_iconst (v := nI 1) hx hb dX0_spread_43 (by decide) ?_
        refine lv_istore_n (lv' := [(3, .int (nI 1)), (0, .ref (q 2)), (1, .ref (q 1)), (2, .int (nI a0))]) hx hb dX0_spread_44 rfl hl (by decide) rfl (fun ls hl => ?_)
        refine lv_iconst (v := nI 0) hx hb dX0_spread_45 (by decide) ?_
        refine lv_istore (lv' := [(4, .int (nI 0)), (3, .int (nI 1)), (0, .ref (q 2)), (1, .ref (q 1)), (2, .int (nI a0))]) hx hb dX0_spread_46 hl (by decide) rfl (fun ls hl => ?_)
        have L48 : ∀ (n48 : Nat) (tt : Nat) (f : Nat) (X : Nat → Nat → Nat), (40 < tt + n48) → (h3 : tt ≤ 40) → (h4 : f = 1 ∨ f = 0 ∧ chg S (oZ Z) (itr S (oZ Z) (rs S a0 (fun _ => 1000000)) tt) (S 0 1) = false) → (hX1 : X = upR Z 1 (itr S (oZ Z) (rs S a0 (fun _ => 1000000)) tt)) → ∀ (H : Heap) (locs : List Loc), va_P D vwCl (wC q k r S X) H → va_D A (wC q k r S X) → va_S A s.heap H locs → ∀ (ls : Array Slot), lv_has ls 5 [(4, .int (nI tt)), (3, .int (nI f)), (0, .ref (q 2)), (1, .ref (q 1)), (2, .int (nI a0))] → W p l e (headSpec wsX0_spread ({ frames := 3, cells := 0, slots := 0, locals := 71 } : Room)).room s m [.ref (q 2), .ref (q 1), .int (nI a0)].toArray below meth c H locs 0 0 (MQ below (va_Qv (fun (u : (Nat → Nat → Nat) × (Nat → Nat → Nat)) => u.1 = S ∧ u.2 = upR Z 1 (itr S (oZ Z) (rs S a0 (fun _ => 1000000)) 40)) (fun u t => wE D (A) (wC q k r u.1 u.2) t) (A)) [.ref (q 2), .ref (q 1), .int (nI a0)].toArray s 0 0 A) (F0 m 48 ls []) := by
          intro n48
          induction n48 with
          | zero =>
            intro tt f X hfuel48 h3 h4 hX1 H locs hP hD hS ls hl
            exact absurd hfuel48 (by omega)
          | succ n48 ih48 =>
            intro tt f X hfuel48 h3 h4 hX1 H locs hP hD hS ls hl
            have hx1 : X 1 = itr S (oZ Z) (rs S a0 (fun _ => 1000000)) tt := by rw [hX1, upR_same]
            have hx0 : oZ X = oZ Z := by rw [hX1]; rfl
            have hl1 : ∀ e, X 1 e ≤ 1000000 := fun e => by rw [hx1]; exact (Okr.itr hG hOk tt).2.le e
            have hl0 : ∀ p, X 0 p ≤ 1 := fun p => by rw [hX1]; exact hZ0 p
            refine lv_iload_n hx hb dX0_spread_48 rfl (lv_at hl 1 rfl) ?_
            refine na_if_eq (tgt := 71) hx hb (by omega) dX0_spread_49 (by decide) (fun h_49 => ?_) (fun h_49 => ?_)
            · skip
              exact W.vret hx hb hr (fun t ht hW => ⟨⟨(S, X), rfl, ⟨rfl, by rw [hX1]; exact congrArg (upR Z 1) (rs_fin hG Rb_nv ha tt (fun q => (h4.resolve_left (by omega)).2))⟩, by rw [ht]; exact hP, hD⟩, hS.F ht⟩) hS.2.2 dX0_spread_71
            · skip
              refine lv_iload hx hb dX0_spread_52 (lv_at hl 0 rfl) ?_
              refine lv_bipush (v := nI 40) hx hb dX0_spread_54 (by decide) ?_
              refine na_icmp_ge (tgt := 71) hx hb (by omega) (by omega) dX0_spread_56 (by decide) (fun h_56 => ?_) (fun h_56 => ?_)
              · skip
                exact W.vret hx hb hr (fun t ht hW => ⟨⟨(S, X), rfl, ⟨rfl, by rw [hX1]; exact congrArg (upR Z 1) (rs_fin hG Rb_nv ha tt (fun q => (h4.resolve_left (by omega)).2))⟩, by rw [ht]; exact hP, hD⟩, hS.F ht⟩) hS.2.2 dX0_spread_71
              · skip
                refine lv_aload_n hx hb dX0_spread_59 rfl (lv_at hl 2 rfl) ?_
                refine lv_aload_n hx hb dX0_spread_60 rfl (lv_at hl 3 rfl) ?_
                refine wr_Vi (As := [.ref (q 1)]) (rest := []) ⟨hx, hb, hml, hown, hts⟩ (k_X0_spreadOnce l D q k r S X _  hB hl1 hl0) (cwV 1 hts gX0_spread_X0_spreadOnce rfl rfl rfl (by decide +kernel) ⟨by decide, by decide⟩) hX hP hD hS hA (q0 := 2) rfl rfl rfl hl.1 rfl (Nat.le_of_ble_eq_true rfl) dX0_spread_61 ⟨by decide, by decide⟩ (fun r_2 u_2 H locs hw_2 hP hD hS => ?_)
                obtain ⟨S_2, Z_2⟩ := u_2
                obtain ⟨e1, e2, e3⟩ := hw_2
                dsimp only at e2 e3 hP hD
                rw [e2, e3] at hP hD
                subst e1
                have hP : va_P D vwCl (wC q k r S (upR X 1 (rnd S (oZ X) (X 1) (S 0 1)))) H := hP
                have hD : va_D A (wC q k r S (upR X 1 (rnd S (oZ X) (X 1) (S 0 1)))) := hD
                refine lv_istore_n (lv' := [(3, .int (nI (bN (chg S (oZ X) (X 1) (S 0 1))))), (4, .int (nI tt)), (0, .ref (q 2)), (1, .ref (q 1)), (2, .int (nI a0))]) hx hb dX0_spread_64 rfl hl (by decide) rfl (fun ls hl => ?_)
                refine lv_iinc (v := nI (tt + 1)) (lv' := [(4, .int (nI (tt + 1))), (3, .int (nI (bN (chg S (oZ X) (X 1) (S 0 1))))), (0, .ref (q 2)), (1, .ref (q 1)), (2, .int (nI a0))]) hx hb dX0_spread_65 hl (k := 1) rfl (nI_add _ 1) (by decide) rfl (fun ls hl => ?_)
                refine lv_goto (tgt := 48) hx hb dX0_spread_68 (by decide) ?_
                exact ih48 (tt + 1) ((bN (chg S (oZ X) (X 1) (S 0 1)))) ((upR X 1 (rnd S (oZ X) (X 1) (S 0 1)))) (by omega) (by omega) (by rw [hx0, hx1]; exact chg_e) (by rw [hx0, hx1, hX1, upR_upR]; rfl) _ _ hP hD hS ls hl
        exact L48 41 0 1 Y (by omega) (by omega) (Or.inl rfl) (by rw [hY, show i = 2 * a0 + 2 by omega]; exact congrArg (upR Z 1) (rG_e ha)) _ _ hP hD hS ls hl
      · skip
        refine lv_aload_n hx hb dX0_spread_22 rfl (lv_at hl 2 rfl) ?_
        refine lv_iload_n hx hb dX0_spread_23 rfl (lv_at hl 0 rfl) ?_
        refine rd_N (As := [.int (nI i)]) (rest := []) ⟨hx, hb, hml, hown, hts⟩ (k_X1_mayLeave l D q k r S Y i hB (by omega)) ⟨va_cnB 1 hts gX0_spread_X1_mayLeave_n45 rfl rfl rfl (hX.2.2 ("FloorGraph$Drive", 45, yX1_mayLeave) (by decide +kernel)) (hts (.initialized RX1) (by decide +kernel)) (by decide +kernel) ⟨by decide, by decide⟩, hts (.instanceMethod yX1_mayLeave) (by decide +kernel), hts (.selects RX1 yX1_mayLeave yX1_mayLeave) (by decide +kernel)⟩ hX hP (q0 := 1) rfl rfl rfl hl.1 rfl (Nat.le_of_ble_eq_true rfl) dX0_spread_24 ⟨Nat.zero_le _, Nat.zero_le _⟩ ?_
        refine na_if_eq (tgt := 37) hx hb (bN_lt _) dX0_spread_27 (by decide) (fun h_27 => ?_) (fun h_27 => ?_)
        · skip
          refine lv_iinc (v := nI (i + 1)) (lv' := [(3, .int (nI (i + 1))), (0, .ref (q 2)), (1, .ref (q 1)), (2, .int (nI a0))]) hx hb dX0_spread_37 hl (k := 0) rfl (nI_add _ 1) (by decide) rfl (fun ls hl => ?_)
          refine lv_goto (tgt := 13) hx hb dX0_spread_40 (by decide) ?_
          exact ih13 (i + 1) Y (by omega) (by omega) (by omega) (by rw [hY]; first | (rw [up2, upR_upR, upR_same]; exact congrArg (upR Z 1) (rG_y (by omega) (bN_pos h_27))) | exact congrArg (upR Z 1) (rG_n (bN_zero h_27))) _ _ hP hD hS ls hl
        · skip
          refine lv_aload_n hx hb dX0_spread_30 rfl (lv_at hl 1 rfl) ?_
          refine va_get (D := D) (v := .ref (q 16)) hx hb hts hin_X0 hown hX.1 hP 2 rfl rfl 1 (by decide) hf_15 (fun _ h9 => h9) rfl dX0_spread_31 ?_
          refine lv_iload_n hx hb dX0_spread_34 rfl (lv_at hl 0 rfl) ?_
          refine lv_iconst (v := nI 0) hx hb dX0_spread_35 (by decide) ?_
          refine na_iast hx hb hX.1 hP hD hS 16 0 rfl rfl (by omega) (by decide) (upd_enc nI _ _ _) dX0_spread_36 (fun H locs hP hD hS => ?_)
          have hP : va_P D vwCl (wC q k r S (up2 Y 1 i 0)) H := hP
          have hD : va_D A (wC q k r S (up2 Y 1 i 0)) := hD
          refine lv_iinc (v := nI (i + 1)) (lv' := [(3, .int (nI (i + 1))), (0, .ref (q 2)), (1, .ref (q 1)), (2, .int (nI a0))]) hx hb dX0_spread_37 hl (k := 0) rfl (nI_add _ 1) (by decide) rfl (fun ls hl => ?_)
          refine lv_goto (tgt := 13) hx hb dX0_spread_40 (by decide) ?_
          exact ih13 (i + 1) ((up2 Y 1 i 0)) (by omega) (by omega) (by omega) (by rw [hY]; first | (rw [up2, upR_upR, upR_same]; exact congrArg (upR Z 1) (rG_y (by omega) (bN_pos h_27))) | exact congrArg (upR Z 1) (rG_n (bN_zero h_27))) _ _ hP hD hS ls hl
  exact L13 3 (2 * a0) ((upR Z 1 (fun _ => 1000000))) (by omega) (by omega) (by omega) (congrArg (upR Z 1) (rG_0 S a0)) _ _ hP hD hS ls hl
end
section
/-- the words on arrays of arrays, as 40.multi takes them -/
def va_AOA (t : FieldType) (U : State) : Prop := (Cond.arrayOver (.array t)).before #[] U = true
theorem va_AOA.use {t : FieldType} {A : Array Value} {U : State} (h : va_AOA t U) : (Cond.arrayOver (.array t)).before A U = true := h
theorem va_AOA.of {t : FieldType} {A : Array Value} {U : State} (h : (Cond.arrayOver (.array t)).before A U = true) : va_AOA t U := h
end
section
/-! ===== BEGIN new T[n][m]: the outer array a place, the inner ones among the pooled ===== -/
/-- f, but v at every address of l -/
def vr_up {α : Type} (f : Nat → α) (l : List Nat) (v : α) : Nat → α := fun a => if a ∈ l then v else f a
theorem vr_up_in {α : Type} {f : Nat → α} {l : List Nat} {v : α} {a : Nat} (h : a ∈ l) : vr_up f l v a = v := if_pos h
theorem vr_up_ne {α : Type} {f : Nat → α} {l : List Nat} {v : α} {a : Nat} (h : a ∉ l) : vr_up f l v a = f a := if_neg h
theorem vr_rows {L l : List Nat} {f : Nat → va_E} {e : va_E} (h : ∀ a, a ∈ l → a ∉ L) : va_pl L f ++ l.map (fun a => (a, e)) = va_pl (L ++ l) (vr_up f l e) := by
  unfold va_pl
  rw [List.map_append]
  congr 1
  · apply List.map_congr_left
    intro a ha
    rw [vr_up_ne (fun q => h a q ha)]
  · apply List.map_congr_left
    intro a ha
    rw [vr_up_in ha]
theorem vr_lay {X rows : va_W} {x : Nat × va_E} {pl : va_W} {D : va_G} {cl : List vw_C} {H : Heap} (hP : va_P D cl (((X ++ pl) ++ [x]) ++ rows) H) : va_P D cl ((X ++ [x]) ++ (pl ++ rows)) H := by
  rw [List.append_assoc (X ++ pl)] at hP
  have h := va_P.swap hP
  rw [← List.append_assoc X] at h
  have h2 := va_P.swap h
  rw [List.append_assoc (X ++ [x])] at h2
  exact h2
theorem vr_layD {X rows : va_W} {x : Nat × va_E} {pl : va_W} {A : Nat → Prop} (hD : va_D A (((X ++ pl) ++ [x]) ++ rows)) : va_D A ((X ++ [x]) ++ (pl ++ rows)) := by
  rw [List.append_assoc (X ++ pl)] at hD
  have h := va_D.swap hD
  rw [← List.append_assoc X] at h
  have h2 := va_D.swap h
  rw [List.append_assoc (X ++ [x])] at h2
  exact h2
theorem vr_outer (c : ClassId) (N h0 : Nat) : ∀ i : Nat, Jvm.Free.Multi.outerC c N h0 i = arrV c N (fun j => va_rf (if j < i then some (h0 + 1 + j) else none))
  | 0 => by
    show ({ cls := c, slots := Array.replicate N .null, vm := .none } : Cell) = _
    rw [arrV_new]
    refine congrArg (arrV c N) (funext fun j => ?_)
    simp [va_rf]
  | i + 1 => by
    show (Jvm.Free.Multi.outerC c N h0 i).setSlot i (.ref (h0 + 1 + i)) = _
    rw [vr_outer c N h0 i, arrV_store]
    refine congrArg (arrV c N) (funext fun j => ?_)
    by_cases e : j = i
    · subst e
      simp [updV, va_rf]
    · by_cases h : j < i
      · simp [updV, e, h, Nat.lt_succ_of_lt h]
      · simp [updV, e, h, show ¬ j < i + 1 by omega]
section VGM
variable {p : Program} {l : Launch} {e : Env} {R : Room} {s : State} {m : MethodId} {args : Array Value} {below : List Frame} {meth : Method} {c : Code} {H : Heap} {locs : List Loc} {cells slots : Nat} {Q : State → Prop}
variable {cc : ByteArray} {pc : Nat} {ls : Array Slot} {rest : List Value} {D : va_G} {cl : List vw_C} {A : Nat → Prop} {a : Nat} {tys : List (ClassId × FieldType)} {ws : va_W} {H0 : Heap}
theorem va_mna {X : va_W} {L : List Nat} {f : Nat → va_E} {cc : ByteArray} (hexec : p.tables.exec = Jvm.exec) (hb : c.code = cc) {own : String} {index : Nat} {ty : FieldType} {cy : ClassId} (hown : s.vm.findClass own = some m.cls) (hclink : (Cond.classLink own index ("[" ++ (FieldType.array ty).toString)).before args s = true) (hover : va_AOA ty s) (harr : (Cond.arrayClass ty).before args s = true) (hcy : s.vm.findClass (FieldType.array ty).toString = some cy)
    (hK : va_K D cl tys s) (hP : va_P D cl (X ++ va_pl L f) H) (hD : va_D A (X ++ va_pl L f)) (hS : va_S A H0 H locs) (hA : ∀ q, H0.size ≤ q → A q) {n k : Int32} {N' K' : Nat} {z : vp_A} (hn : ¬ n < 0) (hk : ¬ k < 0) (hN : n.toNatClampNeg = N') (hM : k.toNatClampNeg = K')
    (hb1 : N' * 4 ≤ 536870912) (hb2 : K' * componentBytes ty ≤ 536870912) (hb3 : K' ≤ 536870912) (hdf : fits ty (defaultValue ty) = true) (hdd : (defaultValue ty).isDefault = true) (hcells : cells + (1 + N') ≤ R.cells) (hslots : slots + (N' + N' * K') ≤ R.slots) (hz : ∀ c : ClassId, Jvm.Free.Multi.innerC c K' (defaultValue ty) = vp_cell c z) (hdg : decode cc pc = .ok (.multianewarray index 2, 4))
    (kk : ∀ (q : Nat) (r : Nat → Nat) (cA : ClassId) (H1 : Heap), (∀ i j : Nat, i < N' → j < N' → r i = r j → i = j) → (∀ i : Nat, i < N' → r i ∉ L) → va_K D cl (tys ++ [(cA, .array ty)]) s →
      va_P D cl ((X ++ [(q, .inl (cA, N', .inr (.inr (.inr (.inr (fun i => if i < N' then some (r i) else none))))))]) ++ va_pl (L ++ (List.range N').map r) (vr_up f ((List.range N').map r) (.inl (cy, z)))) H1 → va_D A ((X ++ [(q, .inl (cA, N', .inr (.inr (.inr (.inr (fun i => if i < N' then some (r i) else none))))))]) ++ va_pl (L ++ (List.range N').map r) (vr_up f ((List.range N').map r) (.inl (cy, z)))) → va_S A H0 H1 locs →
      W p l e R s m args below meth c H1 locs (cells + 1 + N') (slots + N' + N' * K') Q (F0 m (pc + 4) ls (.ref q :: rest))) : W p l e R s m args below meth c H locs cells slots Q (F0 m pc ls (.int k :: .int n :: rest)) := by
  subst hN
  subst hM
  intro T hT Xs
  obtain ⟨vm₁, cA, comp, -, fA, fC, hO, -, X', step⟩ := Xs.multianewarray2F hexec hown hclink (va_AOA.use hover) harr (g := F0 m pc ls (.int k :: .int n :: rest)) rfl (by rw [hb]; exact hdg) rfl hn hk hb1 hb2 hb3 hdf hdd hcells hslots
  have ec : some cy = some comp := hcy.symm.trans fC
  cases ec
  generalize hF : Jvm.Free.Multi.fill (T.setVm vm₁) cA cy n.toNatClampNeg k.toNatClampNeg (defaultValue ty) n.toNatClampNeg = F at X' step
  have hTh : (T.setVm vm₁).heap = H := hT
  obtain ⟨f1, f2, -, -⟩ := Jvm.Free.Multi.fill_facts (T.setVm vm₁) cA cy n.toNatClampNeg k.toNatClampNeg (defaultValue ty) n.toNatClampNeg
  rw [hF, hTh] at f1 f2
  have hold : ∀ x : Nat, x < H.size → F.heap[x]? = H[x]? := fun x hx => by
    have := Jvm.Free.Multi.fill_old (T.setVm vm₁) cA cy n.toNatClampNeg k.toNatClampNeg (defaultValue ty) (a := x) (by rw [hTh]; exact hx) n.toNatClampNeg
    rw [hF, hTh] at this
    exact this
  have hrow : ∀ j : Nat, j < n.toNatClampNeg → F.heap[H.size + 1 + j]? = some (vp_cell cy z) := fun j hj => by
    have := Jvm.Free.Multi.fill_inner (T.setVm vm₁) cA cy n.toNatClampNeg k.toNatClampNeg (defaultValue ty) n.toNatClampNeg j hj
    rw [hF, hTh, hz] at this
    exact this
  have hout : Jvm.Free.Multi.outerC cA n.toNatClampNeg H.size n.toNatClampNeg = vp_cell cA (n.toNatClampNeg, .inr (.inr (.inr (.inr (fun i => if i < n.toNatClampNeg then some (H.size + 1 + i) else none))))) := by
    rw [vp_cell_q]
    exact vr_outer cA n.toNatClampNeg H.size n.toNatClampNeg
  rw [hout] at f2
  have hlt : ∀ a, a ∈ L → a < H.size := fun a ha => by
    obtain ⟨k9, hk9⟩ := va_pl_get (X := X) (f := f) ha
    exact (hP k9 _ hk9).lt
  have hnl : ∀ i : Nat, i < n.toNatClampNeg → H.size + 1 + i ∉ L := fun i _ h => by
    have := hlt _ h
    omega
  have hnm : ∀ a, a ∈ (List.range n.toNatClampNeg).map (fun i => H.size + 1 + i) → a ∉ L := fun a ha h => by
    obtain ⟨i, -, rfl⟩ := List.mem_map.mp ha
    have := hlt _ h
    omega
  have hP0 : va_P D cl (X ++ va_pl L f) F.heap := hP.kept (fun k9 x hx => hold x.1 ((hP k9 x hx).lt))
  have hP1 : va_P D cl ((X ++ va_pl L f) ++ [(H.size, .inl (cA, n.toNatClampNeg, .inr (.inr (.inr (.inr (fun i => if i < n.toNatClampNeg then some (H.size + 1 + i) else none))))))]) F.heap := hP0.app (fun k9 x hx => by
    have h0 : k9 < 1 := (List.getElem?_eq_some_iff.mp hx).1
    rw [show k9 = 0 by omega] at hx
    cases hx
    exact f2)
  have hP2 : va_P D cl (((X ++ va_pl L f) ++ [(H.size, .inl (cA, n.toNatClampNeg, .inr (.inr (.inr (.inr (fun i => if i < n.toNatClampNeg then some (H.size + 1 + i) else none))))))]) ++ ((List.range n.toNatClampNeg).map (fun i => H.size + 1 + i)).map (fun a => (a, .inl (cy, z)))) F.heap := hP1.app (fun k9 x hx => by
    obtain ⟨a, ha, rfl⟩ := List.mem_map.mp (List.mem_of_getElem? hx)
    obtain ⟨i, hi, rfl⟩ := List.mem_map.mp ha
    exact hrow i (List.mem_range.mp hi))
  have hD2 : va_D A (((X ++ va_pl L f) ++ [(H.size, .inl (cA, n.toNatClampNeg, .inr (.inr (.inr (.inr (fun i => if i < n.toNatClampNeg then some (H.size + 1 + i) else none))))))]) ++ ((List.range n.toNatClampNeg).map (fun i => H.size + 1 + i)).map (fun a => (a, .inl (cy, z)))) := by
    have hD1 := hD.push (e := .inl (cA, n.toNatClampNeg, .inr (.inr (.inr (.inr (fun i => if i < n.toNatClampNeg then some (H.size + 1 + i) else none)))))) hP rfl (hA _ hS.1)
    generalize hW1 : (X ++ va_pl L f) ++ [(H.size, .inl (cA, n.toNatClampNeg, .inr (.inr (.inr (.inr (fun i => if i < n.toNatClampNeg then some (H.size + 1 + i) else none))))))] = W1 at hD1 hP1 ⊢
    have hle : ∀ (k9 : Nat) (x : Nat × va_E), W1[k9]? = some x → x.1 ≤ H.size := fun k9 x hx => by
      rw [← hW1] at hx
      by_cases hl : k9 < (X ++ va_pl L f).length
      · rw [List.getElem?_append_left hl] at hx
        exact Nat.le_of_lt ((hP k9 x hx).lt)
      · rw [List.getElem?_append_right (by omega)] at hx
        have h0 : k9 - (X ++ va_pl L f).length < 1 := (List.getElem?_eq_some_iff.mp hx).1
        rw [show k9 - (X ++ va_pl L f).length = 0 by omega] at hx
        cases hx
        exact Nat.le_refl _
    have hr : ∀ (k9 : Nat) (x : Nat × va_E), (((List.range n.toNatClampNeg).map (fun i => H.size + 1 + i)).map (fun a => ((a, .inl (cy, z)) : Nat × va_E)))[k9]? = some x → x.1 = H.size + 1 + k9 := fun k9 x hx => by
      rw [List.getElem?_map, List.getElem?_map] at hx
      by_cases h9 : k9 < n.toNatClampNeg
      · rw [List.getElem?_range h9] at hx
        cases hx
        rfl
      · have hn0 : (List.range n.toNatClampNeg)[k9]? = none := List.getElem?_eq_none (by rw [List.length_range]; omega)
        rw [hn0] at hx
        cases hx
    refine ⟨fun i j x y hi hj hxy => ?_, fun k9 x hx => ?_⟩
    · by_cases h1 : i < W1.length <;> by_cases h2 : j < W1.length
      · rw [List.getElem?_append_left h1] at hi
        rw [List.getElem?_append_left h2] at hj
        exact hD1.1 i j x y hi hj hxy
      · rw [List.getElem?_append_left h1] at hi
        rw [List.getElem?_append_right (by omega)] at hj
        have := hle _ _ hi
        have := hr _ _ hj
        omega
      · rw [List.getElem?_append_right (by omega)] at hi
        rw [List.getElem?_append_left h2] at hj
        have := hle _ _ hj
        have := hr _ _ hi
        omega
      · rw [List.getElem?_append_right (by omega)] at hi hj
        have := hr _ _ hi
        have := hr _ _ hj
        omega
    · by_cases h1 : k9 < W1.length
      · rw [List.getElem?_append_left h1] at hx
        exact hD1.2 k9 x hx
      · rw [List.getElem?_append_right (by omega)] at hx
        have := hr _ _ hx
        exact hA _ (by have := hS.1; omega)
  have hAr : ArrOfT s cA (.array ty) := fun N9 z9 => by
    obtain ⟨-, k9, hk9, cm9, hkk9⟩ := (hO 0 0 0).1
    exact ⟨(fun q hq => by cases hq), k9, hk9, cm9, hkk9⟩
  have hK2 : va_K D cl (tys ++ [(cA, .array ty)]) s := ⟨hK.1, fun k9 x hx => by
    by_cases hl : k9 < tys.length
    · rw [List.getElem?_append_left hl] at hx
      exact hK.2 k9 x hx
    · rw [List.getElem?_append_right (by omega)] at hx
      have h0 : k9 - tys.length < 1 := (List.getElem?_eq_some_iff.mp hx).1
      rw [show k9 - tys.length = 0 by omega] at hx
      cases hx
      exact ⟨hAr, fA⟩⟩
  obtain ⟨t, a1, b1⟩ := kk H.size (fun i => H.size + 1 + i) cA F.heap (fun i j _ _ h => by have h9 : H.size + 1 + i = H.size + 1 + j := h; omega) hnl hK2 (by rw [← vr_rows hnm]; exact vr_lay hP2) (by rw [← vr_rows hnm]; exact vr_layD hD2) ⟨by rw [f1]; have := hS.1; omega, fun x h1 h2 => (hold x (Nat.lt_of_lt_of_le h1 hS.1)).trans (hS.2.1 x h1 h2), hS.2.2⟩ F rfl X'
  refine ⟨t, step t ?_, b1⟩
  have e : T.heap.size = H.size := by rw [hT]
  rw [e]
  exact a1
end VGM
/-! ===== END ===== -/
end
section
/-! ===== BEGIN exceptions that leave a method, and their catching by the caller (launches without stack traces) ===== -/
section VXA
/-! The laws vx_back, vx_callV, vx_callS, vx_callSW, vx_throw0, vx_throwS follow proofs of the library, with one case more: JvmDerived/Free/Laws.lean (Back.of_free), Shelf42/LK1.lean (callV, callS), Shelf/KitTraced.lean (throwNew0V, throwNewS). -/
/-- where a method has thrown q: the class by its name, the cell, what was written, the world -/
def vx_T (XC : String → State → State → Prop) (st : State) (q : Addr) (t : State) (mc ms : Nat) (free : Addr → Prop) : Prop :=
  ∃ (E : String) (ce : Cell) (L : List Loc), XC E st t ∧ t.heap[q]? = some ce ∧ ce.vm = .none ∧ st.vm.findClass E = some ce.cls ∧ st.WarmedH t.vm ∧ st.sameButNew ({ t with vm := st.vm } : State) L mc ms ∧ ∀ z ∈ L, free z.base
def vx_Q (Qc : Array Value → State → Outcome → State → Prop) (XC : String → State → State → Prop) (mc ms : Nat) (free : Addr → Prop) : Array Value → State → Outcome → State → Prop := fun a st o t =>
  (Qc a st o t ∧ ∃ L, FrameEnd st o t L mc ms ∧ ∀ q ∈ L, free q.base) ∨ ∃ q, o = .threw q ∧ vx_T XC st q t mc ms free
/-- a callee that returns or throws -/
def vx_Met (l : Launch) (y : MethodName) (ws : List Cond) (rm : Room) (Pc : Array Value → State → Prop) (Qc : Array Value → State → Outcome → State → Prop) (XC : String → State → State → Prop) (mc ms : Nat) (free : Addr → Prop) : Prop :=
  MetFree l y (headSpec ws rm) Pc (fun _ _ _ _ _ => True) (vx_Q Qc XC mc ms free)
def vx_Post (XC : String → State → State → Prop) (mc ms : Nat) (free : Addr → Prop) : Pt → Array Value → Addr → Pt → Prop := fun A a q B =>
  ∃ (g : JFrame) (mk : MethodId) (t : State) (L : List Loc) (E : String) (ce : Cell), B.U.heap = t.heap ∧ B.U.vm = t.vm ∧ XC E (A.U.calling g mk a) t ∧ t.heap[q]? = some ce ∧ ce.vm = .none ∧ A.U.vm.findClass E = some ce.cls ∧ B.locs = A.locs ++ L ∧ (∀ z ∈ L, free z.base) ∧ B.cells = A.cells + mc ∧ B.slots = A.slots + ms
def vx_Back (l : Launch) (R : Room) (p : Program) (e : Env) (below : List Frame) (s : State) (sargs : Array Value) (y : MethodName) (len W9 : Nat)
    (Pre : Pt → Array Value → Prop) (Post : Pt → Array Value → Option Value → Pt → Prop) (PostX : Pt → Array Value → Addr → Pt → Prop) : Prop :=
  ∀ (m : MethodId) (meth : Method) (c : Code) (A : Pt) (g : JFrame) (ig : Instr) (mk : MethodId) (a : Array Value),
    Stand p l e R s m sargs below meth c A.U A.locs A.cells A.slots → g.method = m → g.locals.size = c.maxLocals → decode c.code g.pc = .ok (ig, len) →
    2 * g.monitorRoom + (g.stack.map fun v => v.category).sum ≤ W9 → A.U.methodNamed? y = some mk → Pre A a →
    (∃ (v : Option Value) (B : Pt), Stand p l e R s m sargs below meth c B.U B.locs B.cells B.slots ∧ Post A a v B ∧
      Steps p.tables e below (doInvoke e (A.U.setTop g) [] mk a).1 (B.U.setTop { g with pc := g.pc + len, stack := v.toList ++ g.stack })) ∨
    (∃ (q : Addr) (B : Pt), Stand p l e R s m sargs below meth c B.U B.locs B.cells B.slots ∧ PostX A a q B ∧
      Steps p.tables e below (doInvoke e (A.U.setTop g) [] mk a).1 ((B.U.setTop g).pushFrame (.throwing q)))
section Payer
variable {l : Launch} {R : Room} {p : Program} {e : Env} {below : List Frame} {s : State} {sargs : Array Value} {y : MethodName} {len W9 : Nat}
theorem vx_back {ws : List Cond} {rm : Room} {Pc : Array Value → State → Prop} {Qc : Array Value → State → Outcome → State → Prop} {XC : String → State → State → Prop} {mc ms : Nat} {free : Addr → Prop} {bytes : ByteArray} {maxL : Nat} {ret : Option FieldType}
    (hM : vx_Met l y ws rm Pc Qc XC mc ms free) (hblind : FrameBlind Pc) (hrc : rm.cells = mc) (hrs : rm.slots = ms)
    (hframes : rm.frames + 1 ≤ R.frames) (hlocals : W9 + (maxL + 11) + rm.locals ≤ R.locals)
    (hws : ∀ w ∈ ws, ∀ a' U, s.WarmedH U.vm → w.before a' U = true) (hcode : Cond.code y bytes maxL ret ∈ ws) (hinit : ∀ a' U, s.WarmedH U.vm → (Cond.initialized y.cls).before a' U = true) :
    vx_Back l R p e below s sargs y len W9 (PreOf R mc ms Pc) (PostOf Qc mc ms free) (vx_Post XC mc ms free) := by
  intro m meth c A g ig mk a X hg hsize hdg hW hn hp
  have h1 : (headSpec ws rm).pre.before a A.U = true := atoms_intro fun w hw => hws w hw _ _ X.warmed
  have h2 : (Cond.code y bytes maxL ret).before a A.U = true := hws _ hcode _ _ X.warmed
  have h3 : (Cond.initialized y.cls).before a A.U = true := hinit _ _ X.warmed
  have h4 : A.cells + (headSpec ws rm).room.cells ≤ R.cells := by rw [show (headSpec ws rm).room.cells = mc from hrc]; exact hp.1
  have h5 : A.slots + (headSpec ws rm).room.slots ≤ R.slots := by rw [show (headSpec ws rm).room.slots = ms from hrs]; exact hp.2.1
  have hPc : Pc a (A.U.calling g mk a) := hblind _ _ _ _ hp.2.2
  obtain ⟨U, Ls, c0, s0⟩ := A
  dsimp only [Pt.U, Pt.locs, Pt.cells, Pt.slots] at h1 h2 h3 h4 h5 X hn hPc ⊢
  obtain ⟨methY, cY, hmY, hcY, -, hlY, -, -, -, -⟩ := Cond.code_spec hn h2
  obtain ⟨kY, hkY, -⟩ := className_of_methodNamed hn
  have hinitY : kY.init = .initialized := Cond.initialized_spec (findClass_of_methodNamed hn) hkY h3
  have h : At U g.method c below := by rw [hg]; exact X.here
  have hlocals9 : W9 + (maxL + 11) + (headSpec ws rm).room.locals ≤ R.locals := hlocals
  have happ : (headSpec ws rm).appliesLoose y e.platform (U.calling g mk a) = true :=
    Spec.appliesLoose_calling (g := g) h hdg hn hkY hinitY
      (X.room_calling (g := g) (R' := (headSpec ws rm).room) hsize hmY hcY hframes (by rw [hlY]; omega) h4 h5) h1
  obtain ⟨mid, hmid⟩ := h.above
  have hfr : (U.setTop g).frames = (.java g :: mid) ++ below := by rw [State.frames_setTop' g h.top, hmid]; rfl
  obtain ⟨o, s₂, hsteps, -, hend, hq⟩ := Steps.callFree hM p X.admits X.cas X.clock (acts := []) hfr happ hPc trivial
  have hq' : vx_Q Qc XC mc ms free a (U.calling g mk a) o s₂ := hq
  rw [State.frames_setTop' g h.top] at hend
  obtain ⟨g₀, hg0⟩ := Option.isSome_iff_exists.mp h.top
  obtain ⟨r, hr⟩ := State.topJava?_eq_some.mp hg0
  have hr' : (({ U with heap := s₂.heap, slotsUsed := s₂.slotsUsed } : State).setVm s₂.vm).frames = .java g₀ :: r := hr
  rcases hq' with ⟨hqc, L, hfe, hL⟩ | ⟨q, rfl, E, ce, L, hx, hce, hcv, hcl, hW₂, hsm, hL⟩
  · obtain ⟨⟨v, rfl⟩, hW₂, e2, q2, q3, q4, q5, q6⟩ := id hfe
    have e3 : s₂ = ({ (U.calling g mk a).setFrames s₂.frames with heap := s₂.heap, slotsUsed := s₂.slotsUsed } : State).setVm s₂.vm := by
      have : s₂ = ({ s₂ with vm := (U.calling g mk a).vm } : State).setVm s₂.vm := rfl
      rw [e2] at this
      exact this
    obtain ⟨c₂, i₂, len₂, hc₂, hd₂, hf₂⟩ := hend
    have hW' : U.WarmedH s₂.vm := hW₂
    have hcc : c₂ = c := by
      have h1 : s₂.code? g.method = U.code? g.method := by
        rw [State.code?_eq, State.code?_eq, hW'.alike.method?]
      exact Option.some.inj (hc₂.symm.trans (h1.trans h.code))
    subst hcc
    have hlen : len₂ = len := by rw [hdg] at hd₂; cases hd₂; rfl
    subst hlen
    have hs₂ : s₂ = (({ U with heap := s₂.heap, slotsUsed := s₂.slotsUsed } : State).setVm s₂.vm).setTop { g with pc := g.pc + len₂, stack := v.toList ++ g.stack } := by
      refine e3.trans ?_
      rw [hf₂, State.calling_eq h.top, State.setFrames_setFrames, State.setTop_of_frames _ hr', hr]
      rfl
    have hsame : U.sameButNew ({ U with heap := s₂.heap, slotsUsed := s₂.slotsUsed } : State) L mc ms := by
      refine ⟨?_, q2, q3, q4, q5, q6⟩
      obtain ⟨t, ht, -⟩ := State.frames_cons hr
      show ({ U with heap := s₂.heap, slotsUsed := s₂.slotsUsed } : State) = { U.setFrames U.frames with heap := s₂.heap, slotsUsed := s₂.slotsUsed }
      rw [State.setFrames_self ht]
    subst hg
    refine Or.inl ⟨v, ⟨(({ U with heap := s₂.heap, slotsUsed := s₂.slotsUsed } : State).setVm s₂.vm), Ls ++ L, c0 + mc, s0 + ms⟩,
      ⟨X.admits, X.cas, X.clock, X.frames, X.room, X.hears, X.method, X.code, (X.here.setHeapUsed s₂.heap s₂.slotsUsed).setVm hW'.alike, X.tail, State.WarmedH.trans X.warmed hW', X.limits, X.bytes, X.same.trans (hsame.setVm s.vm)⟩,
      ⟨g, mk, s₂, L, rfl, rfl, hqc, rfl, hL, rfl, rfl⟩, ?_⟩
    show Steps p.tables e below _ ((({ U with heap := s₂.heap, slotsUsed := s₂.slotsUsed } : State).setVm s₂.vm).setTop { g with pc := g.pc + len₂, stack := v.toList ++ g.stack })
    rw [← hs₂]
    exact hsteps
  · obtain ⟨e2, q2, q3, q4, q5, q6⟩ := id hsm
    have e3 : s₂ = ({ (U.calling g mk a).setFrames s₂.frames with heap := s₂.heap, slotsUsed := s₂.slotsUsed } : State).setVm s₂.vm := by
      have : s₂ = ({ s₂ with vm := (U.calling g mk a).vm } : State).setVm s₂.vm := rfl
      rw [e2] at this
      exact this
    have hf₂ : s₂.frames = .throwing q :: .java g :: U.frames.tail := hend
    have hW' : U.WarmedH s₂.vm := hW₂
    have hs₂ : s₂ = ((({ U with heap := s₂.heap, slotsUsed := s₂.slotsUsed } : State).setVm s₂.vm).setTop g).pushFrame (.throwing q) := by
      refine e3.trans ?_
      rw [hf₂, State.calling_eq h.top, State.setFrames_setFrames, State.pushFrame, State.frames_setTop _ hr', State.setTop_of_frames _ hr', State.setFrames_setFrames, hr]
      rfl
    have hsame : U.sameButNew ({ U with heap := s₂.heap, slotsUsed := s₂.slotsUsed } : State) L mc ms := by
      refine ⟨?_, q2, q3, q4, q5, q6⟩
      obtain ⟨t, ht, -⟩ := State.frames_cons hr
      show ({ U with heap := s₂.heap, slotsUsed := s₂.slotsUsed } : State) = { U.setFrames U.frames with heap := s₂.heap, slotsUsed := s₂.slotsUsed }
      rw [State.setFrames_self ht]
    subst hg
    refine Or.inr ⟨q, ⟨(({ U with heap := s₂.heap, slotsUsed := s₂.slotsUsed } : State).setVm s₂.vm), Ls ++ L, c0 + mc, s0 + ms⟩,
      ⟨X.admits, X.cas, X.clock, X.frames, X.room, X.hears, X.method, X.code, (X.here.setHeapUsed s₂.heap s₂.slotsUsed).setVm hW'.alike, X.tail, State.WarmedH.trans X.warmed hW', X.limits, X.bytes, X.same.trans (hsame.setVm s.vm)⟩,
      ⟨g, mk, s₂, L, E, ce, rfl, rfl, hx, hce, hcv, hcl, rfl, hL, rfl, rfl⟩, ?_⟩
    show Steps p.tables e below _ (((({ U with heap := s₂.heap, slotsUsed := s₂.slotsUsed } : State).setVm s₂.vm).setTop g).pushFrame (.throwing q))
    rw [← hs₂]
    exact hsteps
end Payer
section Calls
variable {p : Program} {l : Launch} {e : Env} {R : Room} {s : State} {m : MethodId} {args : Array Value} {below : List Frame} {meth : Method} {c : Code} {T : State} {locs : List Loc} {cells slots : Nat}
theorem vx_callV (X : Stand p l e R s m args below meth c T locs cells slots) (hexec : p.tables.exec = Jvm.exec) {own C : String} {index : Nat} {y : MethodName} {bytes : ByteArray} {maxL : Nat} {ret : Option FieldType}
    (hown : s.vm.findClass own = some m.cls) (hlink : (Cond.methodLink own index y).before args s = true) (hinst : (Cond.instanceMethod y).before args s = true) (hsel : (Cond.selects C y y).before args s = true)
    (hcode : (Cond.code y bytes maxL ret).before args s = true) (hy : y.cls ≠ "java/lang/invoke/MethodHandle" ∧ y.cls ≠ "java/lang/invoke/VarHandle")
    {W9 : Nat} {Pre : Pt → Array Value → Prop} {Post : Pt → Array Value → Option Value → Pt → Prop} {PostX : Pt → Array Value → Addr → Pt → Prop} (hK : vx_Back l R p e below s args y 3 W9 Pre Post PostX)
    {b : Addr} {cellB : Cell} (hcell : T.heap[b]? = some cellB) (hobj : cellB.vm.isStatics = false) (hcls : s.vm.findClass C = some cellB.cls)
    {g : JFrame} (hg : g.method = m) (hsize : g.locals.size = c.maxLocals) {argsL rest : List Value} (hlen : ∀ sig, parseMethodDescriptor y.desc = some sig → argsL.length = sig.parameters.length)
    (hstack : g.stack = argsL.reverse ++ .ref b :: rest) (hW : 2 * g.monitorRoom + (rest.map fun v => v.category).sum ≤ W9) (hdg : decode c.code g.pc = .ok (.invokevirtual index, 3))
    (hpre : ∀ vm₁, s.WarmedH vm₁ → Pre ⟨T.setVm vm₁, locs, cells, slots⟩ (Value.ref b :: argsL).toArray) :
    (∃ (v : Option Value) (vm₁ : Vm) (B : Pt), s.WarmedH vm₁ ∧ Stand p l e R s m args below meth c B.U B.locs B.cells B.slots ∧ Post ⟨T.setVm vm₁, locs, cells, slots⟩ (Value.ref b :: argsL).toArray v B ∧
      ∀ target, Steps p.tables e below (B.U.setTop { g with pc := g.pc + 3, stack := v.toList ++ rest }) target → Steps p.tables e below (T.setTop g) target) ∨
    (∃ (q : Addr) (vm₁ : Vm) (B : Pt), s.WarmedH vm₁ ∧ Stand p l e R s m args below meth c B.U B.locs B.cells B.slots ∧ PostX ⟨T.setVm vm₁, locs, cells, slots⟩ (Value.ref b :: argsL).toArray q B ∧
      Steps p.tables e below (T.setTop g) ((B.U.setTop { g with stack := rest }).pushFrame (.throwing q))) := by
  obtain ⟨mk, methM, hnamed, hmethM, hstM, habM⟩ := Cond.instanceMethod_spec hinst
  obtain ⟨methM', cM, hmethM', -, -, -, -, -, -, hsigM⟩ := Cond.code_spec hnamed hcode
  cases hmethM.symm.trans hmethM'
  obtain ⟨c2, r2, m2, q1, q2, q3, q4, kP, hkP, hkPi⟩ := Cond.selects_spec hsel
  cases hcls.symm.trans q1
  cases (State.methodFound?_of_named hnamed hy).symm.trans q2
  cases hnamed.symm.trans q3
  have hselP : selectMethod e.platform s.vm cellB.cls mk = .method mk := by rw [Launch.admits_selectMethod X.admits]; exact q4
  obtain ⟨vm₁, X₁, hstep₁⟩ := X.invokevirtual hexec hown hlink hnamed hmethM hstM hkP hkPi hy (a := b) (cell := cellB) hcell
    (fun z h => by rw [h] at hobj; cases hobj) hselP hmethM habM hkP hkPi (g := g) hg (argsL := argsL) (rest := rest) (hlen _ hsigM) hstack hdg
  rcases hK m meth c ⟨T.setVm vm₁, locs, cells, slots⟩ { g with stack := rest } (.invokevirtual index) mk (Value.ref b :: argsL).toArray X₁ hg hsize hdg hW (X₁.named hnamed) (hpre vm₁ X₁.warmed) with ⟨v, B, X', hpost, hsteps⟩ | ⟨q, B, X', hpost, hsteps⟩
  · exact Or.inl ⟨v, vm₁, B, X₁.warmed, X', hpost, fun target h => hstep₁ _ fun acts => by rw [doInvoke_state]; exact hsteps.trans h⟩
  · exact Or.inr ⟨q, vm₁, B, X₁.warmed, X', hpost, hstep₁ _ fun acts => by rw [doInvoke_state]; exact hsteps⟩
theorem vx_callS (X : Stand p l e R s m args below meth c T locs cells slots) (hexec : p.tables.exec = Jvm.exec) {own : String} {index : Nat} {y : MethodName} {bytes : ByteArray} {maxL : Nat} {ret : Option FieldType}
    (hown : s.vm.findClass own = some m.cls) (hlink : (Cond.methodLink own index y).before args s = true) (hstat : (Cond.static y).before args s = true) (hinit : (Cond.initialized y.cls).before args s = true)
    (hcode : (Cond.code y bytes maxL ret).before args s = true) (hy : y.cls ≠ "java/lang/invoke/MethodHandle" ∧ y.cls ≠ "java/lang/invoke/VarHandle")
    {W9 : Nat} {Pre : Pt → Array Value → Prop} {Post : Pt → Array Value → Option Value → Pt → Prop} {PostX : Pt → Array Value → Addr → Pt → Prop} (hK : vx_Back l R p e below s args y 3 W9 Pre Post PostX)
    {g : JFrame} (hg : g.method = m) (hsize : g.locals.size = c.maxLocals) {argsL rest : List Value} (hlen : ∀ sig, parseMethodDescriptor y.desc = some sig → argsL.length = sig.parameters.length)
    (hstack : g.stack = argsL.reverse ++ rest) (hW : 2 * g.monitorRoom + (rest.map fun v => v.category).sum ≤ W9) (hdg : decode c.code g.pc = .ok (.invokestatic index, 3))
    (hpre : ∀ vm₁, s.WarmedH vm₁ → Pre ⟨T.setVm vm₁, locs, cells, slots⟩ argsL.toArray) :
    (∃ (v : Option Value) (vm₁ : Vm) (B : Pt), s.WarmedH vm₁ ∧ Stand p l e R s m args below meth c B.U B.locs B.cells B.slots ∧ Post ⟨T.setVm vm₁, locs, cells, slots⟩ argsL.toArray v B ∧
      ∀ target, Steps p.tables e below (B.U.setTop { g with pc := g.pc + 3, stack := v.toList ++ rest }) target → Steps p.tables e below (T.setTop g) target) ∨
    (∃ (q : Addr) (vm₁ : Vm) (B : Pt), s.WarmedH vm₁ ∧ Stand p l e R s m args below meth c B.U B.locs B.cells B.slots ∧ PostX ⟨T.setVm vm₁, locs, cells, slots⟩ argsL.toArray q B ∧
      Steps p.tables e below (T.setTop g) ((B.U.setTop { g with stack := rest }).pushFrame (.throwing q))) := by
  obtain ⟨mk, hnamed⟩ := Cond.code_named hcode
  obtain ⟨methM, cM, hmethM, -, -, -, -, -, -, hsigM⟩ := Cond.code_spec hnamed hcode
  have hstatic : methM.isStatic = true := Cond.static_spec hnamed hmethM hstat
  obtain ⟨kP, hkP, -⟩ := className_of_methodNamed hnamed
  have hinitP : kP.init = .initialized := Cond.initialized_spec (findClass_of_methodNamed hnamed) hkP hinit
  obtain ⟨vm₁, X₁, hstep₁⟩ := X.invokestatic hexec hown hlink hnamed hmethM hstatic hkP hinitP hy (g := g) hg (argsL := argsL) (rest := rest) (hlen _ hsigM) hstack hdg
  rcases hK m meth c ⟨T.setVm vm₁, locs, cells, slots⟩ { g with stack := rest } (.invokestatic index) mk argsL.toArray X₁ hg hsize hdg hW (X₁.named hnamed) (hpre vm₁ X₁.warmed) with ⟨v, B, X', hpost, hsteps⟩ | ⟨q, B, X', hpost, hsteps⟩
  · exact Or.inl ⟨v, vm₁, B, X₁.warmed, X', hpost, fun target h => hstep₁ _ fun acts => by rw [doInvoke_state]; exact hsteps.trans h⟩
  · exact Or.inr ⟨q, vm₁, B, X₁.warmed, X', hpost, hstep₁ _ fun acts => by rw [doInvoke_state]; exact hsteps⟩
end Calls
theorem vx_cls {s : State} {T : State} {vm₁ : Vm} {E : String} {k : ClassId} (hW : s.WarmedH vm₁) (h : (T.setVm vm₁).vm.findClass E = some k) : s.vm.findClass E = some k := by
  have h1 : vm₁.findClass E = some k := h
  rw [hW.alike.findClass] at h1
  exact h1
/-- the method's frame g, with q thrown over it -/
def vx_W (p : Program) (l : Launch) (e : Env) (R : Room) (s : State) (m : MethodId) (args : Array Value) (below : List Frame) (meth : Method) (c : Code) (H : Heap) (locs : List Loc) (cells slots : Nat) (Q : State → Prop) (g : JFrame) (q : Addr) : Prop :=
  ∀ T : State, T.heap = H → Stand p l e R s m args below meth c T locs cells slots → ∃ t, Steps p.tables e below ((T.setTop g).pushFrame (.throwing q)) t ∧ Q t
def vx_Run (p : Program) (l : Launch) (e : Env) (R : Room) (s : State) (m : MethodId) (args : Array Value) (below : List Frame) (meth : Method) (c : Code) (H : Heap) (locs : List Loc) (cells slots mc ms : Nat) (g : JFrame) (rest : List Value) (Qa : State → Outcome → State → Prop) (XC : String → State → State → Prop) (free : Addr → Prop) : Prop :=
  ∀ T : State, T.heap = H → Stand p l e R s m args below meth c T locs cells slots →
    (∃ (v : Option Value) (st₀ t T' : State) (L : List Loc), st₀.heap = H ∧ Stand p l e R s m args below meth c T' (locs ++ L) (cells + mc) (slots + ms) ∧ (∀ q ∈ L, free q.base) ∧ T'.heap = t.heap ∧ T'.vm = t.vm ∧ Qa st₀ (.returned v) t ∧
      Goes p e below T g T' { g with pc := g.pc + 3, stack := v.toList ++ rest }) ∨
    (∃ (q : Addr) (st₀ t T' : State) (L : List Loc) (E : String) (ce : Cell), st₀.heap = H ∧ Stand p l e R s m args below meth c T' (locs ++ L) (cells + mc) (slots + ms) ∧ (∀ z ∈ L, free z.base) ∧ T'.heap = t.heap ∧ T'.vm = t.vm ∧ XC E st₀ t ∧ t.heap[q]? = some ce ∧ ce.vm = .none ∧ s.vm.findClass E = some ce.cls ∧
      Steps p.tables e below (T.setTop g) ((T'.setTop { g with stack := rest }).pushFrame (.throwing q)))
def vx_X {S : Type} (px : S → Prop) (B : String → S → State → Prop) (A : Nat → Prop) : String → State → State → Prop := fun E st t => ∃ u : S, px u ∧ B E u t ∧ va_F A st t
section Runs
variable {p : Program} {l : Launch} {e : Env} {R : Room} {s : State} {m : MethodId} {args : Array Value} {below : List Frame} {meth : Method} {c : Code} {H : Heap} {locs : List Loc} {cells slots : Nat}
variable {y : MethodName} {bytes cc : ByteArray} {maxL nL mc ms n index : Nat} {ret : Option FieldType} {ws : List Cond} {rm : Room} {Pc : Array Value → State → Prop} {Qc : Array Value → State → Outcome → State → Prop} {XC : String → State → State → Prop} {free : Addr → Prop} {Ts : List Cond} {own C : String} {b : Addr} {As rest : List Value} {g : JFrame}
theorem vx_callBack (cb : CallB R s args own index y bytes maxL ret ws rm mc ms n) (hM : vx_Met l y ws rm Pc Qc XC mc ms free) (hbl : FrameBlind Pc) : vx_Back l R p e below s args y 3 8 (PreOf R mc ms Pc) (PostOf Qc mc ms free) (vx_Post XC mc ms free) := by
  obtain ⟨hrc, hrs, hfr, hlo, hws, hcw, -, hini, -⟩ := cb
  exact vx_back (bytes := bytes) (maxL := maxL) (ret := ret) hM hbl hrc hrs hfr hlo hws hcw (fun a' U hW => word_at hW (Or.inl (by first | rfl | simp [Cond.onTables, Cond.keeps, Cond.steady])) hini)
theorem vx_runV (S : CallFix p m c cc nL s args Ts own) (hM : vx_Met l y ws rm Pc Qc XC mc ms free) (cw : CallW R s args own C index y bytes maxL ret ws rm mc ms n) (hp : PreV s H C b Pc As)
    (hg : g.method = m) (hn : As.length = n) (hsize : g.locals.size = nL) (hstack : g.stack = As.reverse ++ .ref b :: rest) (hW : 2 * g.monitorRoom + (rest.map fun v => v.category).sum ≤ 8) (hdg : decode cc g.pc = .ok (.invokevirtual index, 3)) (hf : cells + mc ≤ R.cells ∧ slots + ms ≤ R.slots) :
    vx_Run p l e R s m args below meth c H locs cells slots mc ms g rest (Qc (Value.ref b :: As).toArray) XC free := by
  have hK : vx_Back l R p e below s args y 3 8 (PreOf R mc ms Pc) (PostOf Qc mc ms free) (vx_Post XC mc ms free) := vx_callBack cw.1 hM hp.1
  obtain ⟨⟨-, -, -, -, -, -, hcode, -, hy, hlen, hl⟩, hin, hse⟩ := cw
  obtain ⟨hx, hb, hml, ho, -⟩ := S
  obtain ⟨-, ⟨cellB, hcB, hoB, hclB⟩, hPc⟩ := hp
  intro T hT X
  rcases vx_callV X hx (C := C) (bytes := bytes) (maxL := maxL) (ret := ret) ho hl hin hse hcode hy hK (by rw [hT]; exact hcB) hoB hclB hg (hsize.trans hml.symm) (argsL := As) (rest := rest) (fun sig h => hn.trans (hlen sig h)) hstack hW (by rw [hb]; exact hdg)
    (fun vm₁ hW₁ => ⟨hf.1, hf.2, hPc (T.setVm vm₁) hT hW₁⟩) with ⟨v, vm₁, ⟨U', l2, c2, s2⟩, hW₁, X', ⟨g', mk, t, L, e1, e2, hq, h1, hL, h2, h3⟩, st⟩ | ⟨q, vm₁, ⟨U', l2, c2, s2⟩, hW₁, X', ⟨g', mk, t, L, E, ce, e1, e2, hq, hce, hcv, hcl, h1, hL, h2, h3⟩, st⟩
  · dsimp only [Pt.U, Pt.locs, Pt.cells, Pt.slots] at X' e1 e2 h1 h2 h3 st
    subst h1; subst h2; subst h3
    exact Or.inl ⟨v, (T.setVm vm₁).calling g' mk (Value.ref b :: As).toArray, t, U', L, hT, X', hL, e1, e2, hq, st⟩
  · dsimp only [Pt.U, Pt.locs, Pt.cells, Pt.slots] at X' e1 e2 h1 h2 h3 st hcl
    subst h1; subst h2; subst h3
    exact Or.inr ⟨q, (T.setVm vm₁).calling g' mk (Value.ref b :: As).toArray, t, U', L, E, ce, hT, X', hL, e1, e2, hq, hce, hcv, vx_cls hW₁ hcl, st⟩
theorem vx_runS (S : CallFix p m c cc nL s args Ts own) (hM : vx_Met l y ws rm Pc Qc XC mc ms free) (cw : CallB R s args own index y bytes maxL ret ws rm mc ms n ∧ (Cond.static y).before args s = true) (hp : PreS s H Pc As)
    (hg : g.method = m) (hn : As.length = n) (hsize : g.locals.size = nL) (hstack : g.stack = As.reverse ++ rest) (hW : 2 * g.monitorRoom + (rest.map fun v => v.category).sum ≤ 8) (hdg : decode cc g.pc = .ok (.invokestatic index, 3)) (hf : cells + mc ≤ R.cells ∧ slots + ms ≤ R.slots) :
    vx_Run p l e R s m args below meth c H locs cells slots mc ms g rest (Qc As.toArray) XC free := by
  have hK : vx_Back l R p e below s args y 3 8 (PreOf R mc ms Pc) (PostOf Qc mc ms free) (vx_Post XC mc ms free) := vx_callBack cw.1 hM hp.1
  obtain ⟨⟨-, -, -, -, -, -, hcode, hini, hy, hlen, hl⟩, hstt⟩ := cw
  obtain ⟨hx, hb, hml, ho, -⟩ := S
  intro T hT X
  rcases vx_callS X hx (bytes := bytes) (maxL := maxL) (ret := ret) ho hl hstt hini hcode hy hK hg (hsize.trans hml.symm) (argsL := As) (rest := rest) (fun sig h => hn.trans (hlen sig h)) hstack hW (by rw [hb]; exact hdg)
    (fun vm₁ hW₁ => ⟨hf.1, hf.2, hp.2 (T.setVm vm₁) hT hW₁⟩) with ⟨v, vm₁, ⟨U', l2, c2, s2⟩, hW₁, X', ⟨g', mk, t, L, e1, e2, hq, h1, hL, h2, h3⟩, st⟩ | ⟨q, vm₁, ⟨U', l2, c2, s2⟩, hW₁, X', ⟨g', mk, t, L, E, ce, e1, e2, hq, hce, hcv, hcl, h1, hL, h2, h3⟩, st⟩
  · dsimp only [Pt.U, Pt.locs, Pt.cells, Pt.slots] at X' e1 e2 h1 h2 h3 st
    subst h1; subst h2; subst h3
    exact Or.inl ⟨v, (T.setVm vm₁).calling g' mk As.toArray, t, U', L, hT, X', hL, e1, e2, hq, st⟩
  · dsimp only [Pt.U, Pt.locs, Pt.cells, Pt.slots] at X' e1 e2 h1 h2 h3 st hcl
    subst h1; subst h2; subst h3
    exact Or.inr ⟨q, (T.setVm vm₁).calling g' mk As.toArray, t, U', L, E, ce, hT, X', hL, e1, e2, hq, hce, hcv, vx_cls hW₁ hcl, st⟩
end Runs
section Rows
variable {p : Program} {l : Launch} {e : Env} {R : Room} {s : State} {m : MethodId} {args : Array Value} {below : List Frame} {meth : Method} {c : Code} {H : Heap} {locs : List Loc} {cells slots : Nat} {Q : State → Prop}
variable {mc ms : Nat} {free : Addr → Prop} {A0 A1 : Nat → Prop} {H0 : Heap} {a : Array Value} {pc : Nat} {ls : Array Slot} {st0 rest : List Value}
theorem vx_keep {st₀ t T' : State} {L : List Loc} (h0 : st₀.heap = H) (e1 : T'.heap = t.heap) (hS : va_S A0 H0 H locs) (hA : ∀ q, q < H.size → A1 q → A0 q) (hf : ∀ q, free q → A0 q) (hL : ∀ q ∈ L, free q.base) (hF : va_F A1 st₀ t) :
    H.size ≤ T'.heap.size ∧ (∀ q : Nat, q < H.size → ¬ A1 q → T'.heap[q]? = H[q]?) ∧ va_S A0 H0 T'.heap (locs ++ L) := by
  obtain ⟨hz, hk⟩ := hF
  rw [h0] at hz hk
  exact ⟨by rw [e1]; exact hz, fun q h1 h2 => by rw [e1]; exact hk q h1 h2,
    ⟨Nat.le_trans hS.1 (by rw [e1]; exact hz), fun q h1 h2 => by rw [e1, hk q (Nat.lt_of_lt_of_le h1 hS.1) (fun z => h2 (hA q (Nat.lt_of_lt_of_le h1 hS.1) z))]; exact hS.2.1 q h1 h2, fun q hq => by
      rcases List.mem_append.mp hq with h | h
      · exact hS.2.2 q h
      · exact hf _ (hL q h)⟩⟩
theorem vx_calli {S SX : Type} {post : Int32 → S → Prop} {px : SX → Prop} {B : S → State → Prop} {BX : String → SX → State → Prop} {AX : Nat → Prop} (hr : vx_Run p l e R s m args below meth c H locs cells slots mc ms (F0 m pc ls st0) rest (va_Qi post B A1 a) (vx_X px BX AX) free) (hS : va_S A0 H0 H locs) (hA : ∀ q, q < H.size → A1 q → A0 q) (hf : ∀ q, free q → A0 q) (hAX : ∀ q, q < H.size → AX q → A0 q)
    (kx : ∀ (E : String) (ce : Cell) (q9 : Addr) (u : SX) (t : State) (H1 : Heap) (locs1 : List Loc), t.heap = H1 → s.vm.Alike t.vm → px u → BX E u t → H.size ≤ H1.size → (∀ q : Nat, q < H.size → ¬ AX q → H1[q]? = H[q]?) → va_S A0 H0 H1 locs1 → H1[q9]? = some ce → ce.vm = .none → s.vm.findClass E = some ce.cls → vx_W p l e R s m args below meth c H1 locs1 (cells + mc) (slots + ms) Q (F0 m pc ls rest) q9)
    (kk : ∀ (r : Int32) (u : S) (t : State) (H1 : Heap) (locs1 : List Loc), t.heap = H1 → s.vm.Alike t.vm → post r u → B u t → H.size ≤ H1.size → (∀ q : Nat, q < H.size → ¬ A1 q → H1[q]? = H[q]?) → va_S A0 H0 H1 locs1 → W p l e R s m args below meth c H1 locs1 (cells + mc) (slots + ms) Q (F0 m (pc + 3) ls (.int r :: rest))) : W p l e R s m args below meth c H locs cells slots Q (F0 m pc ls st0) := by
  intro T hT X
  rcases hr T hT X with ⟨v, st₀, t, T', L, h0, X', hL, e1, e2, ⟨⟨r, u, hv, hp, hb⟩, hF⟩, st⟩ | ⟨q, st₀, t, T', L, E, ce, h0, X', hL, e1, e2, ⟨u, hp, hb, hF⟩, hce, hcv, hcl, st⟩
  · cases hv
    obtain ⟨k1, k2, k3⟩ := vx_keep h0 e1 hS hA hf hL hF
    obtain ⟨t2, a1, b1⟩ := kk r u t T'.heap (locs ++ L) e1.symm (by rw [← e2]; exact X'.warmed.alike) hp hb k1 k2 k3 T' rfl X'
    exact ⟨t2, st t2 a1, b1⟩
  · obtain ⟨k1, k2, k3⟩ := vx_keep h0 e1 hS hAX hf hL hF
    obtain ⟨t2, a1, b1⟩ := kx E ce q u t T'.heap (locs ++ L) e1.symm (by rw [← e2]; exact X'.warmed.alike) hp hb k1 k2 k3 (by rw [e1]; exact hce) hcv hcl T' rfl X'
    exact ⟨t2, st.trans a1, b1⟩
theorem vx_calll {S SX : Type} {post : Int64 → S → Prop} {px : SX → Prop} {B : S → State → Prop} {BX : String → SX → State → Prop} {AX : Nat → Prop} (hr : vx_Run p l e R s m args below meth c H locs cells slots mc ms (F0 m pc ls st0) rest (va_Ql post B A1 a) (vx_X px BX AX) free) (hS : va_S A0 H0 H locs) (hA : ∀ q, q < H.size → A1 q → A0 q) (hf : ∀ q, free q → A0 q) (hAX : ∀ q, q < H.size → AX q → A0 q)
    (kx : ∀ (E : String) (ce : Cell) (q9 : Addr) (u : SX) (t : State) (H1 : Heap) (locs1 : List Loc), t.heap = H1 → s.vm.Alike t.vm → px u → BX E u t → H.size ≤ H1.size → (∀ q : Nat, q < H.size → ¬ AX q → H1[q]? = H[q]?) → va_S A0 H0 H1 locs1 → H1[q9]? = some ce → ce.vm = .none → s.vm.findClass E = some ce.cls → vx_W p l e R s m args below meth c H1 locs1 (cells + mc) (slots + ms) Q (F0 m pc ls rest) q9)
    (kk : ∀ (r : Int64) (u : S) (t : State) (H1 : Heap) (locs1 : List Loc), t.heap = H1 → s.vm.Alike t.vm → post r u → B u t → H.size ≤ H1.size → (∀ q : Nat, q < H.size → ¬ A1 q → H1[q]? = H[q]?) → va_S A0 H0 H1 locs1 → W p l e R s m args below meth c H1 locs1 (cells + mc) (slots + ms) Q (F0 m (pc + 3) ls (.long r :: rest))) : W p l e R s m args below meth c H locs cells slots Q (F0 m pc ls st0) := by
  intro T hT X
  rcases hr T hT X with ⟨v, st₀, t, T', L, h0, X', hL, e1, e2, ⟨⟨r, u, hv, hp, hb⟩, hF⟩, st⟩ | ⟨q, st₀, t, T', L, E, ce, h0, X', hL, e1, e2, ⟨u, hp, hb, hF⟩, hce, hcv, hcl, st⟩
  · cases hv
    obtain ⟨k1, k2, k3⟩ := vx_keep h0 e1 hS hA hf hL hF
    obtain ⟨t2, a1, b1⟩ := kk r u t T'.heap (locs ++ L) e1.symm (by rw [← e2]; exact X'.warmed.alike) hp hb k1 k2 k3 T' rfl X'
    exact ⟨t2, st t2 a1, b1⟩
  · obtain ⟨k1, k2, k3⟩ := vx_keep h0 e1 hS hAX hf hL hF
    obtain ⟨t2, a1, b1⟩ := kx E ce q u t T'.heap (locs ++ L) e1.symm (by rw [← e2]; exact X'.warmed.alike) hp hb k1 k2 k3 (by rw [e1]; exact hce) hcv hcl T' rfl X'
    exact ⟨t2, st.trans a1, b1⟩
theorem vx_callf {S SX : Type} {post : UInt32 → S → Prop} {px : SX → Prop} {B : S → State → Prop} {BX : String → SX → State → Prop} {AX : Nat → Prop} (hr : vx_Run p l e R s m args below meth c H locs cells slots mc ms (F0 m pc ls st0) rest (va_Qf post B A1 a) (vx_X px BX AX) free) (hS : va_S A0 H0 H locs) (hA : ∀ q, q < H.size → A1 q → A0 q) (hf : ∀ q, free q → A0 q) (hAX : ∀ q, q < H.size → AX q → A0 q)
    (kx : ∀ (E : String) (ce : Cell) (q9 : Addr) (u : SX) (t : State) (H1 : Heap) (locs1 : List Loc), t.heap = H1 → s.vm.Alike t.vm → px u → BX E u t → H.size ≤ H1.size → (∀ q : Nat, q < H.size → ¬ AX q → H1[q]? = H[q]?) → va_S A0 H0 H1 locs1 → H1[q9]? = some ce → ce.vm = .none → s.vm.findClass E = some ce.cls → vx_W p l e R s m args below meth c H1 locs1 (cells + mc) (slots + ms) Q (F0 m pc ls rest) q9)
    (kk : ∀ (r : UInt32) (u : S) (t : State) (H1 : Heap) (locs1 : List Loc), t.heap = H1 → s.vm.Alike t.vm → post r u → B u t → H.size ≤ H1.size → (∀ q : Nat, q < H.size → ¬ A1 q → H1[q]? = H[q]?) → va_S A0 H0 H1 locs1 → W p l e R s m args below meth c H1 locs1 (cells + mc) (slots + ms) Q (F0 m (pc + 3) ls (.float r :: rest))) : W p l e R s m args below meth c H locs cells slots Q (F0 m pc ls st0) := by
  intro T hT X
  rcases hr T hT X with ⟨v, st₀, t, T', L, h0, X', hL, e1, e2, ⟨⟨r, u, hv, hp, hb⟩, hF⟩, st⟩ | ⟨q, st₀, t, T', L, E, ce, h0, X', hL, e1, e2, ⟨u, hp, hb, hF⟩, hce, hcv, hcl, st⟩
  · cases hv
    obtain ⟨k1, k2, k3⟩ := vx_keep h0 e1 hS hA hf hL hF
    obtain ⟨t2, a1, b1⟩ := kk r u t T'.heap (locs ++ L) e1.symm (by rw [← e2]; exact X'.warmed.alike) hp hb k1 k2 k3 T' rfl X'
    exact ⟨t2, st t2 a1, b1⟩
  · obtain ⟨k1, k2, k3⟩ := vx_keep h0 e1 hS hAX hf hL hF
    obtain ⟨t2, a1, b1⟩ := kx E ce q u t T'.heap (locs ++ L) e1.symm (by rw [← e2]; exact X'.warmed.alike) hp hb k1 k2 k3 (by rw [e1]; exact hce) hcv hcl T' rfl X'
    exact ⟨t2, st.trans a1, b1⟩
theorem vx_calld {S SX : Type} {post : UInt64 → S → Prop} {px : SX → Prop} {B : S → State → Prop} {BX : String → SX → State → Prop} {AX : Nat → Prop} (hr : vx_Run p l e R s m args below meth c H locs cells slots mc ms (F0 m pc ls st0) rest (va_Qd post B A1 a) (vx_X px BX AX) free) (hS : va_S A0 H0 H locs) (hA : ∀ q, q < H.size → A1 q → A0 q) (hf : ∀ q, free q → A0 q) (hAX : ∀ q, q < H.size → AX q → A0 q)
    (kx : ∀ (E : String) (ce : Cell) (q9 : Addr) (u : SX) (t : State) (H1 : Heap) (locs1 : List Loc), t.heap = H1 → s.vm.Alike t.vm → px u → BX E u t → H.size ≤ H1.size → (∀ q : Nat, q < H.size → ¬ AX q → H1[q]? = H[q]?) → va_S A0 H0 H1 locs1 → H1[q9]? = some ce → ce.vm = .none → s.vm.findClass E = some ce.cls → vx_W p l e R s m args below meth c H1 locs1 (cells + mc) (slots + ms) Q (F0 m pc ls rest) q9)
    (kk : ∀ (r : UInt64) (u : S) (t : State) (H1 : Heap) (locs1 : List Loc), t.heap = H1 → s.vm.Alike t.vm → post r u → B u t → H.size ≤ H1.size → (∀ q : Nat, q < H.size → ¬ A1 q → H1[q]? = H[q]?) → va_S A0 H0 H1 locs1 → W p l e R s m args below meth c H1 locs1 (cells + mc) (slots + ms) Q (F0 m (pc + 3) ls (.double r :: rest))) : W p l e R s m args below meth c H locs cells slots Q (F0 m pc ls st0) := by
  intro T hT X
  rcases hr T hT X with ⟨v, st₀, t, T', L, h0, X', hL, e1, e2, ⟨⟨r, u, hv, hp, hb⟩, hF⟩, st⟩ | ⟨q, st₀, t, T', L, E, ce, h0, X', hL, e1, e2, ⟨u, hp, hb, hF⟩, hce, hcv, hcl, st⟩
  · cases hv
    obtain ⟨k1, k2, k3⟩ := vx_keep h0 e1 hS hA hf hL hF
    obtain ⟨t2, a1, b1⟩ := kk r u t T'.heap (locs ++ L) e1.symm (by rw [← e2]; exact X'.warmed.alike) hp hb k1 k2 k3 T' rfl X'
    exact ⟨t2, st t2 a1, b1⟩
  · obtain ⟨k1, k2, k3⟩ := vx_keep h0 e1 hS hAX hf hL hF
    obtain ⟨t2, a1, b1⟩ := kx E ce q u t T'.heap (locs ++ L) e1.symm (by rw [← e2]; exact X'.warmed.alike) hp hb k1 k2 k3 (by rw [e1]; exact hce) hcv hcl T' rfl X'
    exact ⟨t2, st.trans a1, b1⟩
theorem vx_callv {S SX : Type} {post : S → Prop} {px : SX → Prop} {B : S → State → Prop} {BX : String → SX → State → Prop} {AX : Nat → Prop} (hr : vx_Run p l e R s m args below meth c H locs cells slots mc ms (F0 m pc ls st0) rest (va_Qv post B A1 a) (vx_X px BX AX) free) (hS : va_S A0 H0 H locs) (hA : ∀ q, q < H.size → A1 q → A0 q) (hf : ∀ q, free q → A0 q) (hAX : ∀ q, q < H.size → AX q → A0 q)
    (kx : ∀ (E : String) (ce : Cell) (q9 : Addr) (u : SX) (t : State) (H1 : Heap) (locs1 : List Loc), t.heap = H1 → s.vm.Alike t.vm → px u → BX E u t → H.size ≤ H1.size → (∀ q : Nat, q < H.size → ¬ AX q → H1[q]? = H[q]?) → va_S A0 H0 H1 locs1 → H1[q9]? = some ce → ce.vm = .none → s.vm.findClass E = some ce.cls → vx_W p l e R s m args below meth c H1 locs1 (cells + mc) (slots + ms) Q (F0 m pc ls rest) q9)
    (kk : ∀ (u : S) (t : State) (H1 : Heap) (locs1 : List Loc), t.heap = H1 → s.vm.Alike t.vm → post u → B u t → H.size ≤ H1.size → (∀ q : Nat, q < H.size → ¬ A1 q → H1[q]? = H[q]?) → va_S A0 H0 H1 locs1 → W p l e R s m args below meth c H1 locs1 (cells + mc) (slots + ms) Q (F0 m (pc + 3) ls (rest))) : W p l e R s m args below meth c H locs cells slots Q (F0 m pc ls st0) := by
  intro T hT X
  rcases hr T hT X with ⟨v, st₀, t, T', L, h0, X', hL, e1, e2, ⟨⟨u, hv, hp, hb⟩, hF⟩, st⟩ | ⟨q, st₀, t, T', L, E, ce, h0, X', hL, e1, e2, ⟨u, hp, hb, hF⟩, hce, hcv, hcl, st⟩
  · cases hv
    obtain ⟨k1, k2, k3⟩ := vx_keep h0 e1 hS hA hf hL hF
    obtain ⟨t2, a1, b1⟩ := kk u t T'.heap (locs ++ L) e1.symm (by rw [← e2]; exact X'.warmed.alike) hp hb k1 k2 k3 T' rfl X'
    exact ⟨t2, st t2 a1, b1⟩
  · obtain ⟨k1, k2, k3⟩ := vx_keep h0 e1 hS hAX hf hL hF
    obtain ⟨t2, a1, b1⟩ := kx E ce q u t T'.heap (locs ++ L) e1.symm (by rw [← e2]; exact X'.warmed.alike) hp hb k1 k2 k3 (by rw [e1]; exact hce) hcv hcl T' rfl X'
    exact ⟨t2, st.trans a1, b1⟩
/-- caught by the row x of this method's table; the rows ahead don't take it -/
theorem vx_catch {own name : String} {E : String} {ce : Cell} {q : Addr} (hown : s.vm.findClass own = some m.cls) (pre : List ExceptionTableEntry) (x : ExceptionTableEntry) (suf : List ExceptionTableEntry) (hsplit : c.exceptionTable.toList = pre ++ x :: suf)
    (hpass : ∀ z ∈ pre, covers z pc = false ∨ (z.catchType ≠ 0 ∧ ∃ nm : String, (Cond.classLink own z.catchType nm).before args s = true ∧ va_Nc E nm s)) (hx : covers x pc = true) (h0 : x.catchType ≠ 0)
    (hlink : (Cond.classLink own x.catchType name).before args s = true) (hcast : (Cond.castable E name).before args s = true) (hcell : H[q]? = some ce) (hv : ce.vm = .none) (hcl : s.vm.findClass E = some ce.cls)
    (kk : W p l e R s m args below meth c H locs cells slots Q (F0 m x.handlerPc ls [.ref q])) : vx_W p l e R s m args below meth c H locs cells slots Q (F0 m pc ls rest) q := by
  intro T hT X
  have hpl : e.platform.magicAccessors = ({} : Platform).magicAccessors := by rw [X.admits.platform]
  obtain ⟨c3, c4, hc3, hc4, hasg⟩ := Cond.castable_spec hcast
  cases Option.some.inj (hc3.symm.trans hcl)
  obtain ⟨c5, hc5, hcl5⟩ := Cond.classLink_spec hown hlink e.platform hpl
  cases Option.some.inj (hc4.symm.trans hc5)
  obtain ⟨vm', X', st⟩ := X.thenCaughtThrough q (g := F0 m pc ls rest) rfl (Steps.refl _) (by rw [hT]; exact hcell) (by rw [hv]; rfl) (by obtain ⟨k9, h9, -⟩ := Vm.findClass_spec hcl; exact ⟨k9, h9⟩) pre x suf hsplit
    (fun z hz => by
      rcases hpass z hz with h | ⟨hz0, nm, hl1, hn1⟩
      · exact Or.inl h
      · obtain ⟨c6, hc6, hcl6⟩ := Cond.classLink_spec hown hl1 e.platform hpl
        obtain ⟨a8, b8, h1, h2, h3⟩ := hn1
        cases Option.some.inj (h1.symm.trans hcl)
        cases Option.some.inj (h2.symm.trans hc6)
        exact Or.inr ⟨hz0, _, hcl6, h3⟩) hx (Or.inr ⟨h0, c4, hcl5, hasg⟩)
  obtain ⟨t, a1, b1⟩ := kk (T.setVm vm') hT X'
  exact ⟨t, st.trans a1, b1⟩
end Rows
section Ends
variable {p : Program} {l : Launch} {e : Env} {R : Room} {s : State} {m : MethodId} {args : Array Value} {below : List Frame} {meth : Method} {c : Code} {H : Heap} {locs : List Loc} {cells slots : Nat} {Q : State → Prop}
variable {mc ms : Nat} {free : Addr → Prop} {A0 A1 : Nat → Prop} {H0 : Heap} {a : Array Value} {ls : Array Slot} {st0 rest : List Value}
variable {Qc : Array Value → State → Outcome → State → Prop} {XC : String → State → State → Prop}
/-- what a body that may throw owes at its end -/
def vx_MQ (below : List Frame) (Qc : Array Value → State → Outcome → State → Prop) (XC : String → State → State → Prop) (a : Array Value) (s : State) (mc ms : Nat) (free : Addr → Prop) : State → Prop := fun t =>
  ∃ o, t.status = .running ∧ Ended t below o ∧ vx_Q Qc XC mc ms free a s o t
theorem vx_ret {g : JFrame} {mc ms : Nat} (k : W p l e R s m args below meth c H locs cells slots (MQ below Qc args s mc ms free) g) : W p l e R s m args below meth c H locs cells slots (vx_MQ below Qc XC args s mc ms free) g := by
  intro T hT X
  obtain ⟨t, a1, o, b1, b2, b3, b4⟩ := k T hT X
  exact ⟨t, a1, o, b1, b2, Or.inl ⟨b3, b4⟩⟩
/-- not caught here: it goes on to the caller -/
theorem vx_widen {g : JFrame} {q : Addr} {k n : Nat} (h1 : cells ≤ k) (h2 : slots ≤ n) (kk : vx_W p l e R s m args below meth c H locs k n Q g q) : vx_W p l e R s m args below meth c H locs cells slots Q g q := fun T hT X => kk T hT (stand_widen X h1 h2)
theorem vx_out {pc : Nat} {E : String} {ce : Cell} {q : Addr} {mc ms : Nat} (hout : ∀ x ∈ c.exceptionTable.toList, covers x pc = false) (hlocks : meth.locks = false) (hcell : H[q]? = some ce) (hv : ce.vm = .none) (hcl : s.vm.findClass E = some ce.cls)
    (hx : ∀ t : State, t.heap = H → s.vm.Alike t.vm → XC E s t) (hf : ∀ z ∈ locs, free z.base) (hc : cells ≤ mc) (hs : slots ≤ ms) :
    vx_W p l e R s m args below meth c H locs cells slots (vx_MQ below Qc XC args s mc ms free) (F0 m pc ls rest) q := by
  intro T hT X
  obtain ⟨st1, hrun, hend, hW, hsm⟩ := X.leaveThrown q (g := F0 m pc ls rest) rfl rfl rfl hout hlocks
  have hcell9 : (T.setFrames (.throwing q :: below)).heap[q]? = some ce := by
    show T.heap[q]? = some ce
    rw [hT]; exact hcell
  exact ⟨_, st1, .threw q, hrun, hend, Or.inr ⟨q, rfl, E, ce, locs, hx _ hT hW.alike, hcell9, hv, hcl, hW, hsm.mono hc hs, hf⟩⟩
theorem vx_frame {U : State} {k n : Nat} (h : s.sameButNew ({ U with vm := s.vm } : State) locs k n) : s.heap.size ≤ U.heap.size ∧ ∀ q : Nat, q < s.heap.size → (∀ z ∈ locs, z.base ≠ q) → U.heap[q]? = s.heap[q]? := by
  obtain ⟨-, h2, -, -, -, h6⟩ := h
  refine ⟨h2, fun q hq hz => ?_⟩
  obtain ⟨c9, e1, e2, e3, e4⟩ := h6 q _ (Array.getElem?_eq_getElem hq)
  have hs : c9.slots = (s.heap[q]).slots := Array.ext_getElem? fun i => e4 i fun hm => hz _ hm rfl
  have h9 : c9 = s.heap[q] := by
    rw [hs] at e2
    exact e2
  have e5 : U.heap[q]? = some c9 := e1
  rw [e5, h9, Array.getElem?_eq_getElem hq]
/-- a word that the tables alone decide, or a good one -/
def vx_ot (w : Cond) : Bool := w.onTables || goodWord w
theorem vx_ot_at {args a' : Array Value} {s U : State} {w : Cond} (hW : s.WarmedH U.vm) (hvm : s.vm = U.vm) (hg : vx_ot w = true) (h : w.before args s = true) : w.before a' U = true := by
  simp only [vx_ot, Bool.or_eq_true] at hg
  rcases hg with hg | hg
  · exact va_tabs hg hvm h
  · exact word_at hW (good_of_word hg) h
/-- a list's words: the good ones out of the method's own list, the others by premises of their own -/
theorem vx_hat {args : Array Value} {s : State} {L B : List Cond} (h1 : ∀ w ∈ L.filter goodWord, w.before args s = true) (h2 : ∀ w ∈ L.filter (fun w => !goodWord w), w ∈ B) (h3 : ∀ w ∈ B, w.before args s = true) : ∀ w ∈ L, w.before args s = true := by
  intro w hw
  by_cases g : goodWord w = true
  · exact h1 w (List.mem_filter.mpr ⟨hw, g⟩)
  · refine h3 w (h2 w (List.mem_filter.mpr ⟨hw, ?_⟩))
    show (!goodWord w) = true
    cases hgw : goodWord w
    · rfl
    · exact absurd hgw g
theorem vx_c {args : Array Value} {s : State} {w : Cond} {B : List Cond} (h : w.before args s = true) (t : ∀ w ∈ B, w.before args s = true) : ∀ w' ∈ w :: B, w'.before args s = true := fun w' h' => (List.mem_cons.mp h').elim (fun e => by rw [e]; exact h) (t w')
theorem vx_n {args : Array Value} {s : State} : ∀ w ∈ ([] : List Cond), w.before args s = true := fun _ h => nomatch h
theorem vx_own {args : Array Value} {s : State} {L : List Cond} (h1 : ∀ w ∈ L.filter vx_no, w.before args s = true)
    (hU : (Cond.isRef (.static Bundle.tN "UNASSIGNED_STACK" Bundle.steD)).before args s = true) (hN : (Cond.isRef (.static Bundle.tN "SUPPRESSED_SENTINEL" Bundle.listD)).before args s = true)
    (lU : (Cond.laysStatic Bundle.tN "UNASSIGNED_STACK" Bundle.steD).before args s = true) (lN : (Cond.laysStatic Bundle.tN "SUPPRESSED_SENTINEL" Bundle.listD).before args s = true) : ∀ w ∈ L, w.before args s = true := by
  intro w hw
  by_cases e1 : w = .isRef (.static Bundle.tN "UNASSIGNED_STACK" Bundle.steD)
  · rw [e1]; exact hU
  · by_cases e2 : w = .isRef (.static Bundle.tN "SUPPRESSED_SENTINEL" Bundle.listD)
    · rw [e2]; exact hN
    · by_cases e3 : w = .laysStatic Bundle.tN "UNASSIGNED_STACK" Bundle.steD
      · rw [e3]; exact lU
      · by_cases e4 : w = .laysStatic Bundle.tN "SUPPRESSED_SENTINEL" Bundle.listD
        · rw [e4]; exact lN
        · exact h1 w (List.mem_filter.mpr ⟨hw, by unfold vx_no; rw [decide_eq_true e1, decide_eq_true e2, decide_eq_true e3, decide_eq_true e4]; rfl⟩)
/-- where a static field lies, its class's statics cell in H -/
def vx_L (C n d : String) (A : Nat → Prop) (U : State) (H : Heap) : Prop := ∃ (c : ClassId) (k : Class) (i : Nat) (f : Field) (a : Nat) (cell : Cell), U.vm.findClass C = some c ∧ U.fieldFound? C n d = some (c, k, i, f) ∧ f.isStatic = true ∧ k.statics = some a ∧ H[a]? = some cell ∧ cell.vm.isStatics = true ∧ cell.cls = c ∧ f.slot < cell.slots.size ∧ k.staticTypes[f.slot]? = some f.type ∧ ¬ A a
theorem vx_L.moved {C n d : String} {A : Nat → Prop} {u U : State} {H : Heap} (hvm : u.vm.Alike U.vm) (h : vx_L C n d A u H) : vx_L C n d A U H := by
  obtain ⟨c, k, i, f, a, cell, h1, h2, h3, h4, h5, h6, h7, h8, h9, h10⟩ := h
  obtain ⟨k', hi', he⟩ := State.fieldFound?_setVm hvm h2
  exact ⟨c, k', i, f, a, cell, by rw [hvm.findClass]; exact h1, hi', h3, by rw [he]; exact h4, h5, h6, h7, h8, by rw [he]; exact h9, h10⟩
theorem vx_L.kept {C n d : String} {A : Nat → Prop} {U : State} {H H1 : Heap} (h : vx_L C n d A U H) (hq : ∀ a : Nat, a < H.size → ¬ A a → H1[a]? = H[a]?) : vx_L C n d A U H1 := by
  obtain ⟨c, k, i, f, a, cell, h1, h2, h3, h4, h5, h6, h7, h8, h9, h10⟩ := h
  exact ⟨c, k, i, f, a, cell, h1, h2, h3, h4, by rw [hq a (Array.getElem?_eq_some_iff.mp h5).1 h10]; exact h5, h6, h7, h8, h9, h10⟩
theorem vx_L.narrow {C n d : String} {A B : Nat → Prop} {U : State} {H : Heap} (h : vx_L C n d A U H) (hAB : ∀ q, B q → A q) : vx_L C n d B U H := by
  obtain ⟨c, k, i, f, a, cell, h1, h2, h3, h4, h5, h6, h7, h8, h9, h10⟩ := h
  exact ⟨c, k, i, f, a, cell, h1, h2, h3, h4, h5, h6, h7, h8, h9, fun z => h10 (hAB _ z)⟩
theorem vx_L.word {C n d : String} {A : Nat → Prop} {s : State} {args : Array Value} (h : vx_L C n d A s s.heap) : (Cond.laysStatic C n d).before args s = true := by
  obtain ⟨c, k, i, f, a, cell, h1, h2, h3, h4, h5, h6, h7, h8, h9, -⟩ := h
  show (Cond.laysStatic C n d).holds args s none s [] = true
  exact Cond.laysStatic_of h1 h2 h3 h4 h5 h6 h7 h8 h9
/-- .. and what it holds: null or some reference -/
def vx_Zq (C n d : String) (A : Nat → Prop) (U : State) (H : Heap) : Prop := va_Zq C n d A U H ∧ vx_L C n d A U H
theorem vx_Zq.moved {C n d : String} {A : Nat → Prop} {u U : State} {H : Heap} (hvm : u.vm.Alike U.vm) (h : vx_Zq C n d A u H) : vx_Zq C n d A U H := ⟨va_Zq.moved hvm h.1, vx_L.moved hvm h.2⟩
theorem vx_Zq.kept {C n d : String} {A : Nat → Prop} {U : State} {H H1 : Heap} (h : vx_Zq C n d A U H) (hq : ∀ a : Nat, a < H.size → ¬ A a → H1[a]? = H[a]?) : vx_Zq C n d A U H1 := ⟨va_Zq.kept h.1 hq, vx_L.kept h.2 hq⟩
theorem vx_Zq.narrow {C n d : String} {A B : Nat → Prop} {U : State} {H : Heap} (h : vx_Zq C n d A U H) (hAB : ∀ q, B q → A q) : vx_Zq C n d B U H := ⟨va_Zq.narrow h.1 hAB, vx_L.narrow h.2 hAB⟩
theorem vx_Zqof {args : Array Value} {s : State} {C n d : String} {A : Nat → Prop} (hl : (Cond.laysStatic C n d).before args s = true) (hini : (Cond.initialized C).before args s = true) (h : (Cond.isRef (.static C n d)).before args s = true) (hA : ∀ a : Nat, a < s.heap.size → ¬ A a) : vx_Zq C n d A s s.heap := by
  refine ⟨va_Zqof hl hini h hA, ?_⟩
  obtain ⟨c, k, i, f, a, cell, h1, h2, h3, h4, h5, h6, h7, h8, h9⟩ := Cond.laysStatic_spec hl
  exact ⟨c, k, i, f, a, cell, h1, h2, h3, h4, h5, h6, h7, h8, h9, hA a (Array.getElem?_eq_some_iff.mp h5).1⟩
theorem vx_isRef {C n d : String} {v : Value} {A : Nat → Prop} {s : State} {args : Array Value} (h : va_Z C n d v A s s.heap) (hv : v.isRef = true) : (Cond.isRef (.static C n d)).before args s = true := by
  obtain ⟨cf, kf, fi, f, a, cell, h1, h2, h3, h4, h5, h6, h7, -⟩ := h
  have he : (Term.static C n d).eval args s none [] s = some v := by
    simp [Term.eval, State.fieldNamed?, h1, h2, h4, h5, h6, h7]
  simp only [Cond.before, Cond.holds, Cond.value, he]
  cases v <;> simp_all [Value.isRef]
theorem vx_isRefq {C n d : String} {A : Nat → Prop} {s : State} {args : Array Value} (h : va_Zq C n d A s s.heap) : (Cond.isRef (.static C n d)).before args s = true := by
  rcases h with h | ⟨t, h⟩
  · exact vx_isRef h rfl
  · exact vx_isRef h rfl
/-- the same frame, seen from here: as if the method were called anew in this heap -/
theorem vx_rebase {T : State} (X : Stand p l e R s m args below meth c T locs cells slots) {R' : Room} (hf : R'.frames ≤ R.frames) (hl : R'.locals ≤ R.locals) (hc : cells + R'.cells ≤ R.cells) (hs : slots + R'.slots ≤ R.slots) :
    Stand p l e R' ((T.setVm s.vm).setFrames (.invoking m args :: below)) m args below meth c T [] 0 0 := by
  have htop : (T.setVm s.vm).topJava?.isSome := X.here.top
  have hF : ((T.setVm s.vm).setFrames (.invoking m args :: below)).frames = .invoking m args :: below := State.frames_setFrames _ (State.cur_lt_of_top htop)
  obtain ⟨g₀, hg0⟩ := Option.isSome_iff_exists.mp htop
  obtain ⟨r, hr⟩ := State.topJava?_eq_some.mp hg0
  have hl9 : e.platform.stackLimits (T.setVm s.vm).me = e.platform.stackLimits s.me := X.limits
  have hb9 : (T.setVm s.vm).me.stackBytes = s.me.stackBytes := X.bytes
  refine ⟨X.admits, X.cas, X.clock, hF, ?_, X.hears, X.method, X.code, X.here, X.tail, X.warmed, ?_, ?_, ?_⟩
  · have h := X.room
    have hU : ((T.setVm s.vm).setFrames (.invoking m args :: below)).localsInUse = s.localsInUse := by
      rw [State.localsInUse_invoking hF (meth := meth) (c := c) X.method X.code, State.localsInUse_invoking X.frames X.method X.code]
    simp only [State.hasRoom, Bool.and_eq_true, decide_eq_true_eq] at h ⊢
    obtain ⟨⟨⟨⟨h1, h2, h3, h4, h5, h6⟩, h7⟩, h8⟩, h9⟩ := h
    rw [X.frames, List.length_cons] at h2 h3
    have q1 := X.heapSize
    have q2 := X.used
    simp only [hF, hU, List.length_cons, State.stackLimits_setFrames, State.stackBytes_setFrames, hl9, hb9]
    refine ⟨⟨⟨⟨by omega, by omega, by omega, by omega, by omega, h6⟩, ?_⟩, ?_⟩, X.book⟩
    · show T.heap.size + R'.cells ≤ e.platform.maxCells
      omega
    · show T.slotsUsed + R'.slots ≤ e.platform.maxSlots
      omega
  · rw [State.stackLimits_setFrames]; rfl
  · rw [State.stackBytes_setFrames]; rfl
  · refine ⟨?_, Nat.le_refl _, Nat.le_refl _, ?_, ?_, fun a c9 h9 => ⟨c9, h9, rfl, rfl, fun _ _ => rfl⟩⟩
    · obtain ⟨t, ht, -⟩ := State.frames_cons hr
      show T.setVm s.vm = { ((T.setVm s.vm).setFrames (.invoking m args :: below)).setFrames (T.setVm s.vm).frames with heap := T.heap, slotsUsed := T.slotsUsed }
      rw [State.setFrames_setFrames, State.setFrames_self ht]
      rfl
    · show T.slotsUsed = T.slotsUsed + ((T.heap.toList.drop T.heap.size).map (·.slots.size)).sum
      rw [List.drop_eq_nil_of_le (Nat.le_of_eq Array.length_toList)]
      rfl
    · show ((T.heap.toList.drop T.heap.size).map (·.slots.size)).sum ≤ 0
      rw [List.drop_eq_nil_of_le (Nat.le_of_eq Array.length_toList)]
      exact Nat.le_refl _
/-- 'throw new E()': new; dup; invokespecial; athrow -/
theorem vx_throw0 {cc : ByteArray} {pc : Nat} (hexec : p.tables.exec = Jvm.exec) (hb : c.code = cc) (hl : l.stackTraces = false) {own cls : String} {names : List String} {ik ic mc ms : Nat} {A : Nat → Prop}
    (hown : s.vm.findClass own = some m.cls) (hcls : Bundle.fit cls = true) (hnames : ∀ n ∈ names, Bundle.fit n = true)
    (hk : (Cond.classLink own ik cls).before args s = true) (hini : (Cond.initialized cls).before args s = true) (hat : ∀ w ∈ vx_at0 own ic cls names, w.before args s = true)
    (hgood : ∀ w ∈ Cond.classLink own ik cls :: Cond.initialized cls :: vx_at0 own ic cls names, vx_ot w = true)
    (hU : vx_Zq Bundle.tN "UNASSIGNED_STACK" Bundle.steD A s s.heap) (hN : vx_Zq Bundle.tN "SUPPRESSED_SENTINEL" Bundle.listD A s s.heap) (hS : va_S A s.heap H locs) (hsize : ls.size = c.maxLocals)
    (d0 : decode cc pc = .ok (.new ik, 3)) (d3 : decode cc (pc + 3) = .ok (.dup, 1)) (d4 : decode cc (pc + 4) = .ok (.invokespecial ic, 3)) (d7 : decode cc (pc + 7) = .ok (.athrow, 1))
    (hout : ∀ x ∈ c.exceptionTable.toList, covers x (pc + 7) = false)
    (hRframes : names.length + 3 < R.frames) (hRlocals : (rest.map fun v => v.category).sum + (13 * (names.length + 1) + 42) ≤ R.locals) (hRcells : cells + 1 ≤ R.cells) (hRslots : slots + 6 ≤ R.slots) (hlocks : meth.locks = false)
    (hx : ∀ t : State, s.vm.Alike t.vm → H.size ≤ t.heap.size → (∀ q : Nat, q < H.size → t.heap[q]? = H[q]?) → XC cls s t)
    (hf : ∀ z ∈ locs, free z.base) (hc : cells + 1 ≤ mc) (hs : slots + 6 ≤ ms) :
    W p l e R s m args below meth c H locs cells slots (vx_MQ below Qc XC args s mc ms free) (F0 m pc ls rest) := by
  intro T hT X
  have htr : e.platform.stackTraces = false := (show e.platform.stackTraces = l.stackTraces by rw [X.admits.platform]).trans hl
  have Y := vx_rebase X (R' := { frames := R.frames, locals := R.locals, cells := 1, slots := 6 }) (Nat.le_refl _) (Nat.le_refl _) hRcells hRslots
  obtain ⟨s', hA⟩ : ∃ z, z = (T.setVm s.vm).setFrames (.invoking m args :: below) := ⟨_, rfl⟩
  rw [← hA] at Y
  have hvm : s'.vm = s.vm := by rw [hA]; rfl
  have hhp : s'.heap = H := by rw [hA]; exact hT
  have hW0 : s.WarmedH s'.vm := by rw [hvm]; exact State.WarmedH.refl s
  have hat' : ∀ w ∈ vx_at0 own ic cls names, w.before args s' = true := fun w hw => vx_ot_at hW0 hvm.symm (hgood w (List.mem_cons_of_mem _ (List.mem_cons_of_mem _ hw))) (hat w hw)
  have hk' : (Cond.classLink own ik cls).before args s' = true := vx_ot_at hW0 hvm.symm (hgood _ List.mem_cons_self) hk
  have hini' : (Cond.initialized cls).before args s' = true := vx_ot_at hW0 hvm.symm (hgood _ (List.mem_cons_of_mem _ List.mem_cons_self)) hini
  have hU' : vx_Zq Bundle.tN "UNASSIGNED_STACK" Bundle.steD A s' s'.heap := by rw [hhp]; exact vx_Zq.moved hW0.alike (hU.kept hS.2.1)
  have hN' : vx_Zq Bundle.tN "SUPPRESSED_SENTINEL" Bundle.listD A s' s'.heap := by rw [hhp]; exact vx_Zq.moved hW0.alike (hN.kept hS.2.1)
  have h : ∀ w ∈ Bundle.ownAtoms0 own ic cls names, w.before args s' = true := vx_own hat' (vx_isRefq hU'.1) (vx_isRefq hN'.1) hU'.2.word hN'.2.word
  have hown' : s'.vm.findClass own = some m.cls := by rw [hvm]; exact hown
  have hins : (Cond.instantiable cls 6).before args s' = true := h _ (by simp [Bundle.ownAtoms0])
  obtain ⟨vm₁, cX, kX, hfX, hkX, -, -, X₁, st1⟩ := Y.newCold hexec (own := own) (C := cls) (index := ik) (n := 6) hown' hk' hins hini'
    (g := F0 m pc ls rest) rfl (by rw [hb]; exact d0) (Nat.le_refl _) (Nat.le_refl _)
  generalize hT1 : (T.setVm vm₁).pushCell { cls := cX, slots := kX.instanceTypes.map defaultValue, vm := .none } = T1 at X₁ st1
  have hcat : (Value.ref T.heap.size).category = 1 := rfl
  have hcellA : T1.heap[T.heap.size]? = some (freshCell cX kX) := by rw [← hT1]; exact State.heap_pushCell_size _ _
  have d3' : decode c.code (pc + 3) = .ok (.dup, 1) := by rw [hb]; exact d3
  obtain ⟨U, hsteps, hrun, hend, hW, hsame, ce, hce, hO⟩ := X₁.ctorThrow0 hexec htr (own := own) (cls := cls) (names := names) (ic := ic) hown' hcls hnames h (fun x hx => nomatch hx) hfX hkX hcellA (by rw [hhp, hT]; exact Nat.le_refl _)
    (g := { method := m, pc := pc + 4, locals := ls, stack := .ref T.heap.size :: .ref T.heap.size :: rest, locked := none }) rfl hsize rfl rfl (rest := rest) rfl
    (by rw [hb]; exact d4) (by rw [hb]; exact d7) hout hRframes (by simp only [List.map_cons, List.sum_cons, hcat]; omega) hlocks
  obtain ⟨f1, f2⟩ := vx_frame hsame
  rw [hhp] at f1 f2
  have hWs : s.WarmedH U.vm := State.WarmedH.trans hW0 hW
  have hcl : s.vm.findClass cls = some ce.cls := by
    have h9 := hO.cls
    rw [hvm] at h9
    exact h9
  have hall : s.sameButNew ({ U with vm := s.vm } : State) locs mc ms := by
    subst hA
    obtain ⟨e1, e2⟩ := hsame
    rw [State.setFrames_setFrames] at e1
    have h2 : (T.setVm s.vm).sameButNew ({ U with vm := s.vm } : State) [] (0 + 1) (0 + 6) := ⟨e1, e2⟩
    have h3 := X.same.trans h2
    rw [List.append_nil] at h3
    exact h3.mono hc hs
  refine ⟨U, ?_, .threw T.heap.size, hrun, hend, Or.inr ⟨T.heap.size, rfl, cls, ce, locs, hx U hWs.alike f1 (fun q hq => f2 q hq (fun z hz => nomatch hz)), hce, hO.vm, hcl, hWs, hall, hf⟩⟩
  refine st1 _ ?_
  show Steps p.tables e below (T1.setTop { method := m, pc := pc + 3, locals := ls, stack := .ref T.heap.size :: rest, locked := none }) _
  jvm_step X₁.here [X₁.here.top, hexec, d3', Value.category]
  exact hsteps
/-- 'throw new E("text")': new; dup; ldc; invokespecial; athrow -/
theorem vx_throwS {cc : ByteArray} {pc : Nat} (hexec : p.tables.exec = Jvm.exec) (hb : c.code = cc) (hl : l.stackTraces = false) {own cls text : String} {names : List String} {ik is ic mc ms sa : Nat} {A : Nat → Prop}
    (hown : s.vm.findClass own = some m.cls) (hcls : Bundle.fit cls = true) (hnames : ∀ n ∈ names, Bundle.fit n = true)
    (hk : (Cond.classLink own ik cls).before args s = true) (hini : (Cond.initialized cls).before args s = true) (hstr : vk_R own is text sa s) (hat : ∀ w ∈ vx_atS own ic cls names, w.before args s = true)
    (hgood : ∀ w ∈ Cond.classLink own ik cls :: Cond.initialized cls :: vx_atS own ic cls names, vx_ot w = true)
    (hU : vx_Zq Bundle.tN "UNASSIGNED_STACK" Bundle.steD A s s.heap) (hN : vx_Zq Bundle.tN "SUPPRESSED_SENTINEL" Bundle.listD A s s.heap) (hS : va_S A s.heap H locs) (hsize : ls.size = c.maxLocals)
    (d0 : decode cc pc = .ok (.new ik, 3)) (d3 : decode cc (pc + 3) = .ok (.dup, 1)) (d4 : decode cc (pc + 4) = .ok (.ldc is, 2)) (d6 : decode cc (pc + 6) = .ok (.invokespecial ic, 3)) (d9 : decode cc (pc + 9) = .ok (.athrow, 1))
    (hout : ∀ x ∈ c.exceptionTable.toList, covers x (pc + 9) = false)
    (hRframes : names.length + 3 < R.frames) (hRlocals : (rest.map fun v => v.category).sum + (13 * (names.length + 1) + 43) ≤ R.locals) (hRcells : cells + 1 ≤ R.cells) (hRslots : slots + 6 ≤ R.slots) (hlocks : meth.locks = false)
    (hx : ∀ t : State, s.vm.Alike t.vm → H.size ≤ t.heap.size → (∀ q : Nat, q < H.size → t.heap[q]? = H[q]?) → XC cls s t)
    (hf : ∀ z ∈ locs, free z.base) (hc : cells + 1 ≤ mc) (hs : slots + 6 ≤ ms) :
    W p l e R s m args below meth c H locs cells slots (vx_MQ below Qc XC args s mc ms free) (F0 m pc ls rest) := by
  intro T hT X
  have htr : e.platform.stackTraces = false := (show e.platform.stackTraces = l.stackTraces by rw [X.admits.platform]).trans hl
  have Y := vx_rebase X (R' := { frames := R.frames, locals := R.locals, cells := 1, slots := 6 }) (Nat.le_refl _) (Nat.le_refl _) hRcells hRslots
  obtain ⟨s', hA⟩ : ∃ z, z = (T.setVm s.vm).setFrames (.invoking m args :: below) := ⟨_, rfl⟩
  rw [← hA] at Y
  have hvm : s'.vm = s.vm := by rw [hA]; rfl
  have hhp : s'.heap = H := by rw [hA]; exact hT
  have hW0 : s.WarmedH s'.vm := by rw [hvm]; exact State.WarmedH.refl s
  have hat' : ∀ w ∈ vx_atS own ic cls names, w.before args s' = true := fun w hw => vx_ot_at hW0 hvm.symm (hgood w (List.mem_cons_of_mem _ (List.mem_cons_of_mem _ hw))) (hat w hw)
  have hk' : (Cond.classLink own ik cls).before args s' = true := vx_ot_at hW0 hvm.symm (hgood _ List.mem_cons_self) hk
  have hini' : (Cond.initialized cls).before args s' = true := vx_ot_at hW0 hvm.symm (hgood _ (List.mem_cons_of_mem _ List.mem_cons_self)) hini
  have hU' : vx_Zq Bundle.tN "UNASSIGNED_STACK" Bundle.steD A s' s'.heap := by rw [hhp]; exact vx_Zq.moved hW0.alike (hU.kept hS.2.1)
  have hN' : vx_Zq Bundle.tN "SUPPRESSED_SENTINEL" Bundle.listD A s' s'.heap := by rw [hhp]; exact vx_Zq.moved hW0.alike (hN.kept hS.2.1)
  have h : ∀ w ∈ Bundle.ownAtoms own ic cls names, w.before args s' = true := vx_own hat' (vx_isRefq hU'.1) (vx_isRefq hN'.1) hU'.2.word hN'.2.word
  have hown' : s'.vm.findClass own = some m.cls := by rw [hvm]; exact hown
  have hins : (Cond.instantiable cls 6).before args s' = true := h _ (by simp [Bundle.ownAtoms])
  obtain ⟨vm₁, cX, kX, hfX, hkX, -, -, X₁, st1⟩ := Y.newCold hexec (own := own) (C := cls) (index := ik) (n := 6) hown' hk' hins hini'
    (g := F0 m pc ls rest) rfl (by rw [hb]; exact d0) (Nat.le_refl _) (Nat.le_refl _)
  generalize hT1 : (T.setVm vm₁).pushCell { cls := cX, slots := kX.instanceTypes.map defaultValue, vm := .none } = T1 at X₁ st1
  have hcat : (Value.ref T.heap.size).category = 1 := rfl
  have hcellA : T1.heap[T.heap.size]? = some (freshCell cX kX) := by rw [← hT1]; exact State.heap_pushCell_size _ _
  have d3' : decode c.code (pc + 3) = .ok (.dup, 1) := by rw [hb]; exact d3
  have d4' : decode c.code (pc + 4) = .ok (.ldc is, 2) := by rw [hb]; exact d4
  have hstr' : vk_R own is text sa s' := vk_R.warm hW0 hstr
  obtain ⟨U, hsteps, hrun, hend, hW, hsame, ce, hce, hO⟩ := X₁.ctorThrowS hexec htr (own := own) (cls := cls) (names := names) (ic := ic) hown' hcls hnames h (fun x hx => nomatch hx) hfX hkX hcellA (by rw [hhp, hT]; exact Nat.le_refl _) (msg := .ref sa) rfl
    (g := { method := m, pc := pc + 6, locals := ls, stack := .ref sa :: .ref T.heap.size :: .ref T.heap.size :: rest, locked := none }) rfl hsize rfl rfl (rest := rest) rfl
    (by rw [hb]; exact d6) (by rw [hb]; exact d9) hout hRframes (by simp only [List.map_cons, List.sum_cons, hcat]; omega) hlocks
  obtain ⟨f1, f2⟩ := vx_frame hsame
  rw [hhp] at f1 f2
  have hWs : s.WarmedH U.vm := State.WarmedH.trans hW0 hW
  have hcl : s.vm.findClass cls = some ce.cls := by
    have h9 := hO.cls
    rw [hvm] at h9
    exact h9
  have hall : s.sameButNew ({ U with vm := s.vm } : State) locs mc ms := by
    subst hA
    obtain ⟨e1, e2⟩ := hsame
    rw [State.setFrames_setFrames] at e1
    have h2 : (T.setVm s.vm).sameButNew ({ U with vm := s.vm } : State) [] (0 + 1) (0 + 6) := ⟨e1, e2⟩
    have h3 := X.same.trans h2
    rw [List.append_nil] at h3
    exact h3.mono hc hs
  refine ⟨U, ?_, .threw T.heap.size, hrun, hend, Or.inr ⟨T.heap.size, rfl, cls, ce, locs, hx U hWs.alike f1 (fun q hq => f2 q hq (fun z hz => nomatch hz)), hce, hO.vm, hcl, hWs, hall, hf⟩⟩
  refine st1 _ ?_
  show Steps p.tables e below (T1.setTop { method := m, pc := pc + 3, locals := ls, stack := .ref T.heap.size :: rest, locked := none }) _
  jvm_step X₁.here [X₁.here.top, hexec, d3', Value.category]
  exact X₁.ldcString hexec (own := own) (text := text) (index := is) (a := sa) hown' hstr'.1 hstr'.2
    (g := { method := m, pc := pc + 4, locals := ls, stack := .ref T.heap.size :: .ref T.heap.size :: rest, locked := none }) rfl d4' _ hsteps
/-- 'throw new E("text")', the text by a wide index -/
theorem vx_throwSW {cc : ByteArray} {pc : Nat} (hexec : p.tables.exec = Jvm.exec) (hb : c.code = cc) (hl : l.stackTraces = false) {own cls text : String} {names : List String} {ik is ic mc ms sa : Nat} {A : Nat → Prop}
    (hown : s.vm.findClass own = some m.cls) (hcls : Bundle.fit cls = true) (hnames : ∀ n ∈ names, Bundle.fit n = true)
    (hk : (Cond.classLink own ik cls).before args s = true) (hini : (Cond.initialized cls).before args s = true) (hstr : vk_R own is text sa s) (hat : ∀ w ∈ vx_atS own ic cls names, w.before args s = true)
    (hgood : ∀ w ∈ Cond.classLink own ik cls :: Cond.initialized cls :: vx_atS own ic cls names, vx_ot w = true)
    (hU : vx_Zq Bundle.tN "UNASSIGNED_STACK" Bundle.steD A s s.heap) (hN : vx_Zq Bundle.tN "SUPPRESSED_SENTINEL" Bundle.listD A s s.heap) (hS : va_S A s.heap H locs) (hsize : ls.size = c.maxLocals)
    (d0 : decode cc pc = .ok (.new ik, 3)) (d3 : decode cc (pc + 3) = .ok (.dup, 1)) (d4 : decode cc (pc + 4) = .ok (.ldc_w is, 3)) (d7 : decode cc (pc + 7) = .ok (.invokespecial ic, 3)) (d10 : decode cc (pc + 10) = .ok (.athrow, 1))
    (hout : ∀ x ∈ c.exceptionTable.toList, covers x (pc + 10) = false)
    (hRframes : names.length + 3 < R.frames) (hRlocals : (rest.map fun v => v.category).sum + (13 * (names.length + 1) + 43) ≤ R.locals) (hRcells : cells + 1 ≤ R.cells) (hRslots : slots + 6 ≤ R.slots) (hlocks : meth.locks = false)
    (hx : ∀ t : State, s.vm.Alike t.vm → H.size ≤ t.heap.size → (∀ q : Nat, q < H.size → t.heap[q]? = H[q]?) → XC cls s t)
    (hf : ∀ z ∈ locs, free z.base) (hc : cells + 1 ≤ mc) (hs : slots + 6 ≤ ms) :
    W p l e R s m args below meth c H locs cells slots (vx_MQ below Qc XC args s mc ms free) (F0 m pc ls rest) := by
  intro T hT X
  have htr : e.platform.stackTraces = false := (show e.platform.stackTraces = l.stackTraces by rw [X.admits.platform]).trans hl
  have Y := vx_rebase X (R' := { frames := R.frames, locals := R.locals, cells := 1, slots := 6 }) (Nat.le_refl _) (Nat.le_refl _) hRcells hRslots
  obtain ⟨s', hA⟩ : ∃ z, z = (T.setVm s.vm).setFrames (.invoking m args :: below) := ⟨_, rfl⟩
  rw [← hA] at Y
  have hvm : s'.vm = s.vm := by rw [hA]; rfl
  have hhp : s'.heap = H := by rw [hA]; exact hT
  have hW0 : s.WarmedH s'.vm := by rw [hvm]; exact State.WarmedH.refl s
  have hat' : ∀ w ∈ vx_atS own ic cls names, w.before args s' = true := fun w hw => vx_ot_at hW0 hvm.symm (hgood w (List.mem_cons_of_mem _ (List.mem_cons_of_mem _ hw))) (hat w hw)
  have hk' : (Cond.classLink own ik cls).before args s' = true := vx_ot_at hW0 hvm.symm (hgood _ List.mem_cons_self) hk
  have hini' : (Cond.initialized cls).before args s' = true := vx_ot_at hW0 hvm.symm (hgood _ (List.mem_cons_of_mem _ List.mem_cons_self)) hini
  have hU' : vx_Zq Bundle.tN "UNASSIGNED_STACK" Bundle.steD A s' s'.heap := by rw [hhp]; exact vx_Zq.moved hW0.alike (hU.kept hS.2.1)
  have hN' : vx_Zq Bundle.tN "SUPPRESSED_SENTINEL" Bundle.listD A s' s'.heap := by rw [hhp]; exact vx_Zq.moved hW0.alike (hN.kept hS.2.1)
  have h : ∀ w ∈ Bundle.ownAtoms own ic cls names, w.before args s' = true := vx_own hat' (vx_isRefq hU'.1) (vx_isRefq hN'.1) hU'.2.word hN'.2.word
  have hown' : s'.vm.findClass own = some m.cls := by rw [hvm]; exact hown
  have hins : (Cond.instantiable cls 6).before args s' = true := h _ (by simp [Bundle.ownAtoms])
  obtain ⟨vm₁, cX, kX, hfX, hkX, -, -, X₁, st1⟩ := Y.newCold hexec (own := own) (C := cls) (index := ik) (n := 6) hown' hk' hins hini'
    (g := F0 m pc ls rest) rfl (by rw [hb]; exact d0) (Nat.le_refl _) (Nat.le_refl _)
  generalize hT1 : (T.setVm vm₁).pushCell { cls := cX, slots := kX.instanceTypes.map defaultValue, vm := .none } = T1 at X₁ st1
  have hcat : (Value.ref T.heap.size).category = 1 := rfl
  have hcellA : T1.heap[T.heap.size]? = some (freshCell cX kX) := by rw [← hT1]; exact State.heap_pushCell_size _ _
  have d3' : decode c.code (pc + 3) = .ok (.dup, 1) := by rw [hb]; exact d3
  have d4' : decode c.code (pc + 4) = .ok (.ldc_w is, 3) := by rw [hb]; exact d4
  have hstr' : vk_R own is text sa s' := vk_R.warm hW0 hstr
  obtain ⟨U, hsteps, hrun, hend, hW, hsame, ce, hce, hO⟩ := X₁.ctorThrowS hexec htr (own := own) (cls := cls) (names := names) (ic := ic) hown' hcls hnames h (fun x hx => nomatch hx) hfX hkX hcellA (by rw [hhp, hT]; exact Nat.le_refl _) (msg := .ref sa) rfl
    (g := { method := m, pc := pc + 7, locals := ls, stack := .ref sa :: .ref T.heap.size :: .ref T.heap.size :: rest, locked := none }) rfl hsize rfl rfl (rest := rest) rfl
    (by rw [hb]; exact d7) (by rw [hb]; exact d10) hout hRframes (by simp only [List.map_cons, List.sum_cons, hcat]; omega) hlocks
  obtain ⟨f1, f2⟩ := vx_frame hsame
  rw [hhp] at f1 f2
  have hWs : s.WarmedH U.vm := State.WarmedH.trans hW0 hW
  have hcl : s.vm.findClass cls = some ce.cls := by
    have h9 := hO.cls
    rw [hvm] at h9
    exact h9
  have hall : s.sameButNew ({ U with vm := s.vm } : State) locs mc ms := by
    subst hA
    obtain ⟨e1, e2⟩ := hsame
    rw [State.setFrames_setFrames] at e1
    have h2 : (T.setVm s.vm).sameButNew ({ U with vm := s.vm } : State) [] (0 + 1) (0 + 6) := ⟨e1, e2⟩
    have h3 := X.same.trans h2
    rw [List.append_nil] at h3
    exact h3.mono hc hs
  refine ⟨U, ?_, .threw T.heap.size, hrun, hend, Or.inr ⟨T.heap.size, rfl, cls, ce, locs, hx U hWs.alike f1 (fun q hq => f2 q hq (fun z hz => nomatch hz)), hce, hO.vm, hcl, hWs, hall, hf⟩⟩
  refine st1 _ ?_
  show Steps p.tables e below (T1.setTop { method := m, pc := pc + 3, locals := ls, stack := .ref T.heap.size :: rest, locked := none }) _
  jvm_step X₁.here [X₁.here.top, hexec, d3', Value.category]
  exact X₁.ldcStringW hexec (own := own) (text := text) (index := is) (a := sa) hown' hstr'.1 hstr'.2
    (g := { method := m, pc := pc + 4, locals := ls, stack := .ref T.heap.size :: .ref T.heap.size :: rest, locked := none }) rfl d4' _ hsteps
end Ends
section Bodies
variable {l : Launch}
theorem vx_ofW {y : MethodName} {ws ws' : List Cond} {rm : Room} {Pc : Array Value → State → Prop} {Qc : Array Value → State → Outcome → State → Prop} {XC : String → State → State → Prop} {mc ms : Nat} {free : Addr → Prop} {cc : ByteArray} {maxL : Nat} {ret : Option FieldType}
    (hy : plainName y.cls = true) (hw : ws = Cond.code y cc maxL ret :: ws')
    (body : ∀ p e s m args below meth c s₁, BodyLoose p l y (headSpec ws rm) cc maxL ret e s m args below meth c s₁ → c.maxLocals = maxL → (∀ x ∈ c.exceptionTable.toList, False) → Pc args s →
      W p l e (headSpec ws rm).room s m args below meth c s.heap [] 0 0 (vx_MQ below Qc XC args s mc ms free) (entryFrame m args maxL)) : vx_Met l y ws rm Pc Qc XC mc ms free := by
  refine MetFree.of_bodyS (code := cc) (maxLocals := maxL) (ret := ret) hy ?_ ?_
  · intro args s m h hn
    obtain ⟨meth, c, h1, h2, h3, h4, h5, h6, -, -⟩ := Cond.code_spec hn (atoms_spec (ws := ws) h _ (by rw [hw]; exact List.mem_cons_self))
    exact ⟨meth, c, h1, h2, h3, h4, h5, h6⟩
  · intro p e s m args below meth c s₁ B hml hP _
    have hh0 : s₁.heap = s.heap := by rw [B.state]; rfl
    have ht : ∀ x ∈ c.exceptionTable.toList, False := by
      obtain ⟨meth9, c9, h1, h2, -, -, -, -, h7, -⟩ := Cond.code_spec B.named (atoms_spec (ws := ws) B.pre _ (by rw [hw]; exact List.mem_cons_self))
      cases Option.some.inj (h1.symm.trans B.method)
      cases Option.some.inj (h2.symm.trans (Stand.of_body B).code)
      intro x hx
      rw [Array.isEmpty_iff.mp h7] at hx
      cases hx
    obtain ⟨t, a1, o, b1, b2, b3⟩ := body p e s m args below meth c s₁ B hml ht hP s₁ hh0 (Stand.of_body B)
    exact ⟨t, o, a1, b1, b2, b3⟩
/-- the table of a body with handlers -/
theorem vx_table {p : Program} {x y : MethodName} {S : Spec} {cc bytes : ByteArray} {maxL maxL' : Nat} {ret ret' : Option FieldType} {e : Env} {s s₁ : State} {m : MethodId} {args : Array Value} {below : List Frame} {meth : Method} {c : Code} {hh : List (Nat × Nat × Nat × Nat)}
    (B : BodyLoose p l y S cc maxL ret e s m args below meth c s₁) (h : (Cond.codeWith y bytes maxL' ret' hh).before args s = true) : c.exceptionTable.toList = tableOf hh := by
  obtain ⟨m9, meth9, c9, hn9, h1, h2, -, -, h6, -⟩ := Cond.codeWith_spec h
  cases Option.some.inj (hn9.symm.trans B.named)
  cases Option.some.inj (h1.symm.trans B.method)
  cases Option.some.inj (h2.symm.trans (Stand.of_body B).code)
  rw [← h6, table_eq]
end Bodies
end VXA
/-! ===== END ===== -/
/-! ===== BEGIN a static call of a method with an exception table ===== -/
section VXS
variable {p : Program} {l : Launch} {e : Env} {R : Room} {s : State} {m : MethodId} {args : Array Value} {below : List Frame} {meth : Method} {c : Code} {T : State} {H : Heap} {locs : List Loc} {cells slots : Nat}
abbrev vx_CSW (R : Room) (s : State) (args : Array Value) (own : String) (index : Nat) (y : MethodName) (bytes : ByteArray) (maxL : Nat) (ret : Option FieldType) (hh : List (Nat × Nat × Nat × Nat)) (ws : List Cond) (rm : Room) (mc ms n : Nat) : Prop :=
  (rm.cells = mc ∧ rm.slots = ms ∧ rm.frames + 1 ≤ R.frames ∧ 8 + (maxL + 11) + rm.locals ≤ R.locals ∧ (∀ w ∈ ws, ∀ (a' : Array Value) (U : State), s.WarmedH U.vm → w.before a' U = true) ∧ Cond.codeWith y bytes maxL ret hh ∈ ws) ∧
  (Cond.codeWith y bytes maxL ret hh).before args s = true ∧ (Cond.initialized y.cls).before args s = true ∧ (y.cls ≠ "java/lang/invoke/MethodHandle" ∧ y.cls ≠ "java/lang/invoke/VarHandle") ∧
  (∀ sig, parseMethodDescriptor y.desc = some sig → n = sig.parameters.length) ∧ (Cond.methodLink own index y).before args s = true ∧ (Cond.static y).before args s = true
theorem vx_cwSW {own : String} {index maxL mc ms : Nat} {y : MethodName} {bytes : ByteArray} {ret : Option FieldType} {hh : List (Nat × Nat × Nat × Nat)} {Ts ws ws' : List Cond} {rm : Room} (n : Nat) (ht : ∀ w ∈ Ts, w.before args s = true) (hT : GoodIn Ts (va_wsS own index y ws)) (hw : ws = Cond.codeWith y bytes maxL ret hh :: ws') (hrc : rm.cells = mc) (hrs : rm.slots = ms)
    (hd : y.cls ≠ "java/lang/invoke/MethodHandle" ∧ y.cls ≠ "java/lang/invoke/VarHandle" ∧ (parseMethodDescriptor y.desc).map (fun d => d.parameters.length) = some n) (hR : rm.frames + 1 ≤ R.frames ∧ 8 + (maxL + 11) + rm.locals ≤ R.locals) :
    vx_CSW R s args own index y bytes maxL ret hh ws rm mc ms n := by
  have ok : ∀ w ∈ va_wsS own index y ws, w.before args s = true := fun w h => ht w (hT w h).1
  have hG : GoodIn Ts ws := fun w h => hT w (by unfold va_wsS; exact List.mem_append_right _ h)
  have hc : Cond.codeWith y bytes maxL ret hh ∈ ws := by rw [hw]; exact List.mem_cons_self
  refine ⟨⟨hrc, hrs, hR.1, hR.2, pay_in ht hG, hc⟩, ht _ (hG _ hc).1, ok _ (by simp [va_wsS]), ⟨hd.1, hd.2.1⟩, fun sig h => ?_, ok _ (by simp [va_wsS]), ok _ (by simp [va_wsS])⟩
  have h2 := hd.2.2
  rw [h] at h2
  exact (Option.some.inj h2).symm
theorem vx_callSW (X : Stand p l e R s m args below meth c T locs cells slots) (hexec : p.tables.exec = Jvm.exec) {own : String} {index : Nat} {y : MethodName} {bytes : ByteArray} {maxL : Nat} {ret : Option FieldType} {hh : List (Nat × Nat × Nat × Nat)}
    (hown : s.vm.findClass own = some m.cls) (hlink : (Cond.methodLink own index y).before args s = true) (hstat : (Cond.static y).before args s = true) (hinit : (Cond.initialized y.cls).before args s = true)
    (hcode : (Cond.codeWith y bytes maxL ret hh).before args s = true) (hy : y.cls ≠ "java/lang/invoke/MethodHandle" ∧ y.cls ≠ "java/lang/invoke/VarHandle")
    {W9 : Nat} {Pre : Pt → Array Value → Prop} {Post : Pt → Array Value → Option Value → Pt → Prop} (hK : Back l R p e below s args y 3 W9 Pre Post)
    {g : JFrame} (hg : g.method = m) (hsize : g.locals.size = c.maxLocals) {argsL rest : List Value} (hlen : ∀ sig, parseMethodDescriptor y.desc = some sig → argsL.length = sig.parameters.length)
    (hstack : g.stack = argsL.reverse ++ rest) (hW : 2 * g.monitorRoom + (rest.map fun v => v.category).sum ≤ W9) (hdg : decode c.code g.pc = .ok (.invokestatic index, 3))
    (hpre : ∀ vm₁, s.WarmedH vm₁ → Pre ⟨T.setVm vm₁, locs, cells, slots⟩ argsL.toArray) :
    ∃ (v : Option Value) (vm₁ : Vm) (B : Pt), s.WarmedH vm₁ ∧ Stand p l e R s m args below meth c B.U B.locs B.cells B.slots ∧ Post ⟨T.setVm vm₁, locs, cells, slots⟩ argsL.toArray v B ∧
      ∀ target, Steps p.tables e below (B.U.setTop { g with pc := g.pc + 3, stack := v.toList ++ rest }) target → Steps p.tables e below (T.setTop g) target := by
  obtain ⟨mk, methM, cM, hnamed, hmethM, -, -, -, -, -, -, hsigM⟩ := Cond.codeWith_spec hcode
  have hstatic : methM.isStatic = true := Cond.static_spec hnamed hmethM hstat
  obtain ⟨kP, hkP, -⟩ := className_of_methodNamed hnamed
  have hinitP : kP.init = .initialized := Cond.initialized_spec (findClass_of_methodNamed hnamed) hkP hinit
  obtain ⟨vm₁, X₁, hstep₁⟩ := X.invokestatic hexec hown hlink hnamed hmethM hstatic hkP hinitP hy (g := g) hg (argsL := argsL) (rest := rest) (hlen _ hsigM) hstack hdg
  obtain ⟨v, B, X', hpost, hsteps⟩ := hK m meth c ⟨T.setVm vm₁, locs, cells, slots⟩ { g with stack := rest } (.invokestatic index) mk argsL.toArray X₁ hg hsize hdg hW (X₁.named hnamed) (hpre vm₁ X₁.warmed)
  exact ⟨v, vm₁, B, X₁.warmed, X', hpost, fun target h => hstep₁ _ fun acts => by rw [doInvoke_state]; exact hsteps.trans h⟩
theorem vx_runSW {y : MethodName} {bytes cc : ByteArray} {maxL nL mc ms n index : Nat} {ret : Option FieldType} {hh : List (Nat × Nat × Nat × Nat)} {ws : List Cond} {rm : Room} {Pc : Array Value → State → Prop} {Qc : Array Value → State → Outcome → State → Prop} {free : Addr → Prop} {Ts : List Cond} {own : String} {As rest : List Value} {g : JFrame}
    (S : CallFix p m c cc nL s args Ts own) (hM : Met l y ws rm Pc Qc mc ms free) (cw : vx_CSW R s args own index y bytes maxL ret hh ws rm mc ms n) (hp : PreS s H Pc As)
    (hg : g.method = m) (hn : As.length = n) (hsize : g.locals.size = nL) (hstack : g.stack = As.reverse ++ rest) (hW : 2 * g.monitorRoom + (rest.map fun v => v.category).sum ≤ 8) (hdg : decode cc g.pc = .ok (.invokestatic index, 3)) (hf : cells + mc ≤ R.cells ∧ slots + ms ≤ R.slots) :
    va_Run p l e R s m args below meth c H locs cells slots mc ms g rest (Qc As.toArray) (free) := by
  obtain ⟨⟨hrc, hrs, hfr, hlo, hws, hcw⟩, hcode, hini, hy, hlen, hl, hstt⟩ := cw
  have hK : Back l R p e below s args y 3 8 (PreOf R mc ms Pc) (PostOf Qc mc ms free) := va_backW (hh := hh) (bytes := bytes) (maxL := maxL) (ret := ret) hM hp.1 hrc hrs hfr hlo hws hcw (fun a' U hW => word_at hW (Or.inl (by first | rfl | simp [Cond.onTables, Cond.keeps, Cond.steady])) hini)
  obtain ⟨hx, hb, hml, ho, -⟩ := S
  intro T hT X
  obtain ⟨v, vm₁, ⟨U', l2, c2, s2⟩, hW₁, X', ⟨g', mk, t, L, e1, e2, hq, h1, hL, h2, h3⟩, st⟩ := vx_callSW X hx (hh := hh) (bytes := bytes) (maxL := maxL) (ret := ret) ho hl hstt hini hcode hy hK hg (hsize.trans hml.symm) (argsL := As) (rest := rest) (fun sig h => hn.trans (hlen sig h)) hstack hW (by rw [hb]; exact hdg)
    (fun vm₁ hW₁ => ⟨hf.1, hf.2, hp.2 (T.setVm vm₁) hT hW₁⟩)
  dsimp only [Pt.U, Pt.locs, Pt.cells, Pt.slots] at X' e1 e2 h1 h2 h3 st
  subst h1; subst h2; subst h3
  exact ⟨v, (T.setVm vm₁).calling g' mk As.toArray, t, U', L, hT, X', hL, e1, e2, hq, st⟩
/-- not caught here, past rows that name other classes: it goes on to the caller -/
theorem vx_outP {p : Program} {l : Launch} {e : Env} {R : Room} {s : State} {m : MethodId} {args : Array Value} {below : List Frame} {meth : Method} {c : Code} {H : Heap} {locs : List Loc} {cells slots : Nat} {free : Addr → Prop} {ls : Array Slot} {rest : List Value} {Qc : Array Value → State → Outcome → State → Prop} {XC : String → State → State → Prop}
    {pc : Nat} {own E : String} {ce : Cell} {q : Addr} {mc ms : Nat} (hown : s.vm.findClass own = some m.cls) (hlocks : meth.locks = false)
    (hpass : ∀ z ∈ c.exceptionTable.toList, covers z pc = false ∨ (z.catchType ≠ 0 ∧ ∃ nm : String, (Cond.classLink own z.catchType nm).before args s = true ∧ va_Nc E nm s)) (hcell : H[q]? = some ce) (hv : ce.vm = .none) (hcl : s.vm.findClass E = some ce.cls)
    (hx : ∀ t : State, t.heap = H → s.vm.Alike t.vm → XC E s t) (hf : ∀ z ∈ locs, free z.base) (hc : cells ≤ mc) (hs : slots ≤ ms) :
    vx_W p l e R s m args below meth c H locs cells slots (vx_MQ below Qc XC args s mc ms free) (F0 m pc ls rest) q := by
  intro T hT X
  have hpl : e.platform.magicAccessors = ({} : Platform).magicAccessors := by rw [X.admits.platform]
  obtain ⟨vm', hW', X', st⟩ := X.outThrough hlocks q (g := F0 m pc ls rest) rfl rfl rfl (cell := ce) (by rw [hT]; exact hcell) (by rw [hv]; rfl)
    (by obtain ⟨k9, h9, -⟩ := Vm.findClass_spec hcl; exact ⟨k9, h9⟩) (fun z hz => by
      rcases hpass z hz with h | ⟨hz0, nm, hl1, hn1⟩
      · exact Or.inl h
      · obtain ⟨c6, hc6, hcl6⟩ := Cond.classLink_spec hown hl1 e.platform hpl
        obtain ⟨a8, b8, h1, h2, h3⟩ := hn1
        cases Option.some.inj (h1.symm.trans hcl)
        cases Option.some.inj (h2.symm.trans hc6)
        exact Or.inr ⟨hz0, _, hcl6, h3⟩)
  obtain ⟨g₀, hfr⟩ := X'.frames_eq
  have hcell9 : ((T.setVm vm').setFrames (.throwing q :: below)).heap[q]? = some ce := by
    show T.heap[q]? = some ce
    rw [hT]; exact hcell
  have hend : Ended ((T.setVm vm').setFrames (.throwing q :: below)) below (.threw q) := State.frames_setFrames _ (State.cur_lt_of_frames hfr)
  refine ⟨(T.setVm vm').setFrames (.throwing q :: below), ?_, .threw q, X'.here.running, hend, Or.inr ⟨q, rfl, E, ce, locs, hx _ hT (X'.ends _).1.alike, hcell9, hv, hcl, (X'.ends _).1, (X'.ends _).2.mono hc hs, hf⟩⟩
  rw [X.pushThrowing_eq]
  exact st
/-- a thing of a world lies in the heap -/
theorem vx_lt {D : va_G} {cl : List vw_C} {ws : va_W} {H1 : Heap} (h : va_P D cl ws H1) {k : Nat} {q : Nat × va_E} (hk : ws[k]? = some q) : q.1 < H1.size := (h k q hk).lt
end VXS
/-! ===== END ===== -/
/-! ===== BEGIN methods with a table of their own: called by a name, returning or throwing ===== -/
section VXH
/-! vx_backW, vx_callVX, vx_callSX, vx_callVW, vx_runVW, vx_runVX, vx_runSX, vx_ofWH follow the same proofs as their sisters above (Free/Laws.lean, Shelf42/LK1.lean); vx_outP calls Shelf42/NT130.lean (outThrough). -/
section
variable {l : Launch} {R : Room} {p : Program} {e : Env} {below : List Frame} {s : State} {sargs : Array Value} {y : MethodName} {len W9 : Nat}
theorem vx_backW {ws : List Cond} {rm : Room} {Pc : Array Value → State → Prop} {Qc : Array Value → State → Outcome → State → Prop} {XC : String → State → State → Prop} {mc ms : Nat} {free : Addr → Prop} {bytes : ByteArray} {maxL : Nat} {ret : Option FieldType} {hh : List (Nat × Nat × Nat × Nat)}
    (hM : vx_Met l y ws rm Pc Qc XC mc ms free) (hblind : FrameBlind Pc) (hrc : rm.cells = mc) (hrs : rm.slots = ms)
    (hframes : rm.frames + 1 ≤ R.frames) (hlocals : W9 + (maxL + 11) + rm.locals ≤ R.locals)
    (hws : ∀ w ∈ ws, ∀ a' U, s.WarmedH U.vm → w.before a' U = true) (hcode : Cond.codeWith y bytes maxL ret hh ∈ ws) (hinit : ∀ a' U, s.WarmedH U.vm → (Cond.initialized y.cls).before a' U = true) :
    vx_Back l R p e below s sargs y len W9 (PreOf R mc ms Pc) (PostOf Qc mc ms free) (vx_Post XC mc ms free) := by
  intro m meth c A g ig mk a X hg hsize hdg hW hn hp
  have h1 : (headSpec ws rm).pre.before a A.U = true := atoms_intro fun w hw => hws w hw _ _ X.warmed
  have h2 : (Cond.codeWith y bytes maxL ret hh).before a A.U = true := hws _ hcode _ _ X.warmed
  have h3 : (Cond.initialized y.cls).before a A.U = true := hinit _ _ X.warmed
  have h4 : A.cells + (headSpec ws rm).room.cells ≤ R.cells := by rw [show (headSpec ws rm).room.cells = mc from hrc]; exact hp.1
  have h5 : A.slots + (headSpec ws rm).room.slots ≤ R.slots := by rw [show (headSpec ws rm).room.slots = ms from hrs]; exact hp.2.1
  have hPc : Pc a (A.U.calling g mk a) := hblind _ _ _ _ hp.2.2
  obtain ⟨U, Ls, c0, s0⟩ := A
  dsimp only [Pt.U, Pt.locs, Pt.cells, Pt.slots] at h1 h2 h3 h4 h5 X hn hPc ⊢
  obtain ⟨m9, methY, cY, hn9, hmY, hcY, -, hlY, -⟩ := Cond.codeWith_spec h2
  cases Option.some.inj (hn9.symm.trans hn)
  obtain ⟨kY, hkY, -⟩ := className_of_methodNamed hn
  have hinitY : kY.init = .initialized := Cond.initialized_spec (findClass_of_methodNamed hn) hkY h3
  have h : At U g.method c below := by rw [hg]; exact X.here
  have hlocals9 : W9 + (maxL + 11) + (headSpec ws rm).room.locals ≤ R.locals := hlocals
  have happ : (headSpec ws rm).appliesLoose y e.platform (U.calling g mk a) = true :=
    Spec.appliesLoose_calling (g := g) h hdg hn hkY hinitY
      (X.room_calling (g := g) (R' := (headSpec ws rm).room) hsize hmY hcY hframes (by rw [hlY]; omega) h4 h5) h1
  obtain ⟨mid, hmid⟩ := h.above
  have hfr : (U.setTop g).frames = (.java g :: mid) ++ below := by rw [State.frames_setTop' g h.top, hmid]; rfl
  obtain ⟨o, s₂, hsteps, -, hend, hq⟩ := Steps.callFree hM p X.admits X.cas X.clock (acts := []) hfr happ hPc trivial
  have hq' : vx_Q Qc XC mc ms free a (U.calling g mk a) o s₂ := hq
  rw [State.frames_setTop' g h.top] at hend
  obtain ⟨g₀, hg0⟩ := Option.isSome_iff_exists.mp h.top
  obtain ⟨r, hr⟩ := State.topJava?_eq_some.mp hg0
  have hr' : (({ U with heap := s₂.heap, slotsUsed := s₂.slotsUsed } : State).setVm s₂.vm).frames = .java g₀ :: r := hr
  rcases hq' with ⟨hqc, L, hfe, hL⟩ | ⟨q, rfl, E, ce, L, hx, hce, hcv, hcl, hW₂, hsm, hL⟩
  · obtain ⟨⟨v, rfl⟩, hW₂, e2, q2, q3, q4, q5, q6⟩ := id hfe
    have e3 : s₂ = ({ (U.calling g mk a).setFrames s₂.frames with heap := s₂.heap, slotsUsed := s₂.slotsUsed } : State).setVm s₂.vm := by
      have : s₂ = ({ s₂ with vm := (U.calling g mk a).vm } : State).setVm s₂.vm := rfl
      rw [e2] at this
      exact this
    obtain ⟨c₂, i₂, len₂, hc₂, hd₂, hf₂⟩ := hend
    have hW' : U.WarmedH s₂.vm := hW₂
    have hcc : c₂ = c := by
      have h1 : s₂.code? g.method = U.code? g.method := by
        rw [State.code?_eq, State.code?_eq, hW'.alike.method?]
      exact Option.some.inj (hc₂.symm.trans (h1.trans h.code))
    subst hcc
    have hlen : len₂ = len := by rw [hdg] at hd₂; cases hd₂; rfl
    subst hlen
    have hs₂ : s₂ = (({ U with heap := s₂.heap, slotsUsed := s₂.slotsUsed } : State).setVm s₂.vm).setTop { g with pc := g.pc + len₂, stack := v.toList ++ g.stack } := by
      refine e3.trans ?_
      rw [hf₂, State.calling_eq h.top, State.setFrames_setFrames, State.setTop_of_frames _ hr', hr]
      rfl
    have hsame : U.sameButNew ({ U with heap := s₂.heap, slotsUsed := s₂.slotsUsed } : State) L mc ms := by
      refine ⟨?_, q2, q3, q4, q5, q6⟩
      obtain ⟨t, ht, -⟩ := State.frames_cons hr
      show ({ U with heap := s₂.heap, slotsUsed := s₂.slotsUsed } : State) = { U.setFrames U.frames with heap := s₂.heap, slotsUsed := s₂.slotsUsed }
      rw [State.setFrames_self ht]
    subst hg
    refine Or.inl ⟨v, ⟨(({ U with heap := s₂.heap, slotsUsed := s₂.slotsUsed } : State).setVm s₂.vm), Ls ++ L, c0 + mc, s0 + ms⟩,
      ⟨X.admits, X.cas, X.clock, X.frames, X.room, X.hears, X.method, X.code, (X.here.setHeapUsed s₂.heap s₂.slotsUsed).setVm hW'.alike, X.tail, State.WarmedH.trans X.warmed hW', X.limits, X.bytes, X.same.trans (hsame.setVm s.vm)⟩,
      ⟨g, mk, s₂, L, rfl, rfl, hqc, rfl, hL, rfl, rfl⟩, ?_⟩
    show Steps p.tables e below _ ((({ U with heap := s₂.heap, slotsUsed := s₂.slotsUsed } : State).setVm s₂.vm).setTop { g with pc := g.pc + len₂, stack := v.toList ++ g.stack })
    rw [← hs₂]
    exact hsteps
  · obtain ⟨e2, q2, q3, q4, q5, q6⟩ := id hsm
    have e3 : s₂ = ({ (U.calling g mk a).setFrames s₂.frames with heap := s₂.heap, slotsUsed := s₂.slotsUsed } : State).setVm s₂.vm := by
      have : s₂ = ({ s₂ with vm := (U.calling g mk a).vm } : State).setVm s₂.vm := rfl
      rw [e2] at this
      exact this
    have hf₂ : s₂.frames = .throwing q :: .java g :: U.frames.tail := hend
    have hW' : U.WarmedH s₂.vm := hW₂
    have hs₂ : s₂ = ((({ U with heap := s₂.heap, slotsUsed := s₂.slotsUsed } : State).setVm s₂.vm).setTop g).pushFrame (.throwing q) := by
      refine e3.trans ?_
      rw [hf₂, State.calling_eq h.top, State.setFrames_setFrames, State.pushFrame, State.frames_setTop _ hr', State.setTop_of_frames _ hr', State.setFrames_setFrames, hr]
      rfl
    have hsame : U.sameButNew ({ U with heap := s₂.heap, slotsUsed := s₂.slotsUsed } : State) L mc ms := by
      refine ⟨?_, q2, q3, q4, q5, q6⟩
      obtain ⟨t, ht, -⟩ := State.frames_cons hr
      show ({ U with heap := s₂.heap, slotsUsed := s₂.slotsUsed } : State) = { U.setFrames U.frames with heap := s₂.heap, slotsUsed := s₂.slotsUsed }
      rw [State.setFrames_self ht]
    subst hg
    refine Or.inr ⟨q, ⟨(({ U with heap := s₂.heap, slotsUsed := s₂.slotsUsed } : State).setVm s₂.vm), Ls ++ L, c0 + mc, s0 + ms⟩,
      ⟨X.admits, X.cas, X.clock, X.frames, X.room, X.hears, X.method, X.code, (X.here.setHeapUsed s₂.heap s₂.slotsUsed).setVm hW'.alike, X.tail, State.WarmedH.trans X.warmed hW', X.limits, X.bytes, X.same.trans (hsame.setVm s.vm)⟩,
      ⟨g, mk, s₂, L, E, ce, rfl, rfl, hx, hce, hcv, hcl, rfl, hL, rfl, rfl⟩, ?_⟩
    show Steps p.tables e below _ (((({ U with heap := s₂.heap, slotsUsed := s₂.slotsUsed } : State).setVm s₂.vm).setTop g).pushFrame (.throwing q))
    rw [← hs₂]
    exact hsteps
end
variable {p : Program} {l : Launch} {e : Env} {R : Room} {s : State} {m : MethodId} {args : Array Value} {below : List Frame} {meth : Method} {c : Code} {T : State} {H : Heap} {locs : List Loc} {cells slots : Nat}
theorem vx_callVX (X : Stand p l e R s m args below meth c T locs cells slots) (hexec : p.tables.exec = Jvm.exec) {own C : String} {index : Nat} {y : MethodName} {bytes : ByteArray} {maxL : Nat} {ret : Option FieldType} {hh : List (Nat × Nat × Nat × Nat)}
    (hown : s.vm.findClass own = some m.cls) (hlink : (Cond.methodLink own index y).before args s = true) (hinst : (Cond.instanceMethod y).before args s = true) (hsel : (Cond.selects C y y).before args s = true)
    (hcode : (Cond.codeWith y bytes maxL ret hh).before args s = true) (hy : y.cls ≠ "java/lang/invoke/MethodHandle" ∧ y.cls ≠ "java/lang/invoke/VarHandle")
    {W9 : Nat} {Pre : Pt → Array Value → Prop} {Post : Pt → Array Value → Option Value → Pt → Prop} {PostX : Pt → Array Value → Addr → Pt → Prop} (hK : vx_Back l R p e below s args y 3 W9 Pre Post PostX)
    {b : Addr} {cellB : Cell} (hcell : T.heap[b]? = some cellB) (hobj : cellB.vm.isStatics = false) (hcls : s.vm.findClass C = some cellB.cls)
    {g : JFrame} (hg : g.method = m) (hsize : g.locals.size = c.maxLocals) {argsL rest : List Value} (hlen : ∀ sig, parseMethodDescriptor y.desc = some sig → argsL.length = sig.parameters.length)
    (hstack : g.stack = argsL.reverse ++ .ref b :: rest) (hW : 2 * g.monitorRoom + (rest.map fun v => v.category).sum ≤ W9) (hdg : decode c.code g.pc = .ok (.invokevirtual index, 3))
    (hpre : ∀ vm₁, s.WarmedH vm₁ → Pre ⟨T.setVm vm₁, locs, cells, slots⟩ (Value.ref b :: argsL).toArray) :
    (∃ (v : Option Value) (vm₁ : Vm) (B : Pt), s.WarmedH vm₁ ∧ Stand p l e R s m args below meth c B.U B.locs B.cells B.slots ∧ Post ⟨T.setVm vm₁, locs, cells, slots⟩ (Value.ref b :: argsL).toArray v B ∧
      ∀ target, Steps p.tables e below (B.U.setTop { g with pc := g.pc + 3, stack := v.toList ++ rest }) target → Steps p.tables e below (T.setTop g) target) ∨
    (∃ (q : Addr) (vm₁ : Vm) (B : Pt), s.WarmedH vm₁ ∧ Stand p l e R s m args below meth c B.U B.locs B.cells B.slots ∧ PostX ⟨T.setVm vm₁, locs, cells, slots⟩ (Value.ref b :: argsL).toArray q B ∧
      Steps p.tables e below (T.setTop g) ((B.U.setTop { g with stack := rest }).pushFrame (.throwing q))) := by
  obtain ⟨mk, methM, hnamed, hmethM, hstM, habM⟩ := Cond.instanceMethod_spec hinst
  obtain ⟨m8, methM', cM, hn8, hmethM', -, -, -, -, -, -, hsigM⟩ := Cond.codeWith_spec hcode
  cases Option.some.inj (hn8.symm.trans hnamed)
  cases hmethM.symm.trans hmethM'
  obtain ⟨c2, r2, m2, q1, q2, q3, q4, kP, hkP, hkPi⟩ := Cond.selects_spec hsel
  cases hcls.symm.trans q1
  cases (State.methodFound?_of_named hnamed hy).symm.trans q2
  cases hnamed.symm.trans q3
  have hselP : selectMethod e.platform s.vm cellB.cls mk = .method mk := by rw [Launch.admits_selectMethod X.admits]; exact q4
  obtain ⟨vm₁, X₁, hstep₁⟩ := X.invokevirtual hexec hown hlink hnamed hmethM hstM hkP hkPi hy (a := b) (cell := cellB) hcell
    (fun z h => by rw [h] at hobj; cases hobj) hselP hmethM habM hkP hkPi (g := g) hg (argsL := argsL) (rest := rest) (hlen _ hsigM) hstack hdg
  rcases hK m meth c ⟨T.setVm vm₁, locs, cells, slots⟩ { g with stack := rest } (.invokevirtual index) mk (Value.ref b :: argsL).toArray X₁ hg hsize hdg hW (X₁.named hnamed) (hpre vm₁ X₁.warmed) with ⟨v, B, X', hpost, hsteps⟩ | ⟨q, B, X', hpost, hsteps⟩
  · exact Or.inl ⟨v, vm₁, B, X₁.warmed, X', hpost, fun target h => hstep₁ _ fun acts => by rw [doInvoke_state]; exact hsteps.trans h⟩
  · exact Or.inr ⟨q, vm₁, B, X₁.warmed, X', hpost, hstep₁ _ fun acts => by rw [doInvoke_state]; exact hsteps⟩
theorem vx_callSX (X : Stand p l e R s m args below meth c T locs cells slots) (hexec : p.tables.exec = Jvm.exec) {own : String} {index : Nat} {y : MethodName} {bytes : ByteArray} {maxL : Nat} {ret : Option FieldType} {hh : List (Nat × Nat × Nat × Nat)}
    (hown : s.vm.findClass own = some m.cls) (hlink : (Cond.methodLink own index y).before args s = true) (hstat : (Cond.static y).before args s = true) (hinit : (Cond.initialized y.cls).before args s = true)
    (hcode : (Cond.codeWith y bytes maxL ret hh).before args s = true) (hy : y.cls ≠ "java/lang/invoke/MethodHandle" ∧ y.cls ≠ "java/lang/invoke/VarHandle")
    {W9 : Nat} {Pre : Pt → Array Value → Prop} {Post : Pt → Array Value → Option Value → Pt → Prop} {PostX : Pt → Array Value → Addr → Pt → Prop} (hK : vx_Back l R p e below s args y 3 W9 Pre Post PostX)
    {g : JFrame} (hg : g.method = m) (hsize : g.locals.size = c.maxLocals) {argsL rest : List Value} (hlen : ∀ sig, parseMethodDescriptor y.desc = some sig → argsL.length = sig.parameters.length)
    (hstack : g.stack = argsL.reverse ++ rest) (hW : 2 * g.monitorRoom + (rest.map fun v => v.category).sum ≤ W9) (hdg : decode c.code g.pc = .ok (.invokestatic index, 3))
    (hpre : ∀ vm₁, s.WarmedH vm₁ → Pre ⟨T.setVm vm₁, locs, cells, slots⟩ argsL.toArray) :
    (∃ (v : Option Value) (vm₁ : Vm) (B : Pt), s.WarmedH vm₁ ∧ Stand p l e R s m args below meth c B.U B.locs B.cells B.slots ∧ Post ⟨T.setVm vm₁, locs, cells, slots⟩ argsL.toArray v B ∧
      ∀ target, Steps p.tables e below (B.U.setTop { g with pc := g.pc + 3, stack := v.toList ++ rest }) target → Steps p.tables e below (T.setTop g) target) ∨
    (∃ (q : Addr) (vm₁ : Vm) (B : Pt), s.WarmedH vm₁ ∧ Stand p l e R s m args below meth c B.U B.locs B.cells B.slots ∧ PostX ⟨T.setVm vm₁, locs, cells, slots⟩ argsL.toArray q B ∧
      Steps p.tables e below (T.setTop g) ((B.U.setTop { g with stack := rest }).pushFrame (.throwing q))) := by
  obtain ⟨mk, methM, cM, hnamed, hmethM, -, -, -, -, -, -, hsigM⟩ := Cond.codeWith_spec hcode
  have hstatic : methM.isStatic = true := Cond.static_spec hnamed hmethM hstat
  obtain ⟨kP, hkP, -⟩ := className_of_methodNamed hnamed
  have hinitP : kP.init = .initialized := Cond.initialized_spec (findClass_of_methodNamed hnamed) hkP hinit
  obtain ⟨vm₁, X₁, hstep₁⟩ := X.invokestatic hexec hown hlink hnamed hmethM hstatic hkP hinitP hy (g := g) hg (argsL := argsL) (rest := rest) (hlen _ hsigM) hstack hdg
  rcases hK m meth c ⟨T.setVm vm₁, locs, cells, slots⟩ { g with stack := rest } (.invokestatic index) mk argsL.toArray X₁ hg hsize hdg hW (X₁.named hnamed) (hpre vm₁ X₁.warmed) with ⟨v, B, X', hpost, hsteps⟩ | ⟨q, B, X', hpost, hsteps⟩
  · exact Or.inl ⟨v, vm₁, B, X₁.warmed, X', hpost, fun target h => hstep₁ _ fun acts => by rw [doInvoke_state]; exact hsteps.trans h⟩
  · exact Or.inr ⟨q, vm₁, B, X₁.warmed, X', hpost, hstep₁ _ fun acts => by rw [doInvoke_state]; exact hsteps⟩
theorem vx_callVW (X : Stand p l e R s m args below meth c T locs cells slots) (hexec : p.tables.exec = Jvm.exec) {own C : String} {index : Nat} {y : MethodName} {bytes : ByteArray} {maxL : Nat} {ret : Option FieldType} {hh : List (Nat × Nat × Nat × Nat)}
    (hown : s.vm.findClass own = some m.cls) (hlink : (Cond.methodLink own index y).before args s = true) (hinst : (Cond.instanceMethod y).before args s = true) (hsel : (Cond.selects C y y).before args s = true)
    (hcode : (Cond.codeWith y bytes maxL ret hh).before args s = true) (hy : y.cls ≠ "java/lang/invoke/MethodHandle" ∧ y.cls ≠ "java/lang/invoke/VarHandle")
    {W9 : Nat} {Pre : Pt → Array Value → Prop} {Post : Pt → Array Value → Option Value → Pt → Prop} (hK : Back l R p e below s args y 3 W9 Pre Post)
    {b : Addr} {cellB : Cell} (hcell : T.heap[b]? = some cellB) (hobj : cellB.vm.isStatics = false) (hcls : s.vm.findClass C = some cellB.cls)
    {g : JFrame} (hg : g.method = m) (hsize : g.locals.size = c.maxLocals) {argsL rest : List Value} (hlen : ∀ sig, parseMethodDescriptor y.desc = some sig → argsL.length = sig.parameters.length)
    (hstack : g.stack = argsL.reverse ++ .ref b :: rest) (hW : 2 * g.monitorRoom + (rest.map fun v => v.category).sum ≤ W9) (hdg : decode c.code g.pc = .ok (.invokevirtual index, 3))
    (hpre : ∀ vm₁, s.WarmedH vm₁ → Pre ⟨T.setVm vm₁, locs, cells, slots⟩ (Value.ref b :: argsL).toArray) :
    ∃ (v : Option Value) (vm₁ : Vm) (B : Pt), s.WarmedH vm₁ ∧ Stand p l e R s m args below meth c B.U B.locs B.cells B.slots ∧ Post ⟨T.setVm vm₁, locs, cells, slots⟩ (Value.ref b :: argsL).toArray v B ∧
      ∀ target, Steps p.tables e below (B.U.setTop { g with pc := g.pc + 3, stack := v.toList ++ rest }) target → Steps p.tables e below (T.setTop g) target := by
  obtain ⟨mk, methM, hnamed, hmethM, hstM, habM⟩ := Cond.instanceMethod_spec hinst
  obtain ⟨m8, methM', cM, hn8, hmethM', -, -, -, -, -, -, hsigM⟩ := Cond.codeWith_spec hcode
  cases Option.some.inj (hn8.symm.trans hnamed)
  cases hmethM.symm.trans hmethM'
  obtain ⟨c2, r2, m2, q1, q2, q3, q4, kP, hkP, hkPi⟩ := Cond.selects_spec hsel
  cases hcls.symm.trans q1
  cases (State.methodFound?_of_named hnamed hy).symm.trans q2
  cases hnamed.symm.trans q3
  have hselP : selectMethod e.platform s.vm cellB.cls mk = .method mk := by rw [Launch.admits_selectMethod X.admits]; exact q4
  obtain ⟨vm₁, X₁, hstep₁⟩ := X.invokevirtual hexec hown hlink hnamed hmethM hstM hkP hkPi hy (a := b) (cell := cellB) hcell
    (fun z h => by rw [h] at hobj; cases hobj) hselP hmethM habM hkP hkPi (g := g) hg (argsL := argsL) (rest := rest) (hlen _ hsigM) hstack hdg
  obtain ⟨v, B, X', hpost, hsteps⟩ := hK m meth c ⟨T.setVm vm₁, locs, cells, slots⟩ { g with stack := rest } (.invokevirtual index) mk (Value.ref b :: argsL).toArray X₁ hg hsize hdg hW (X₁.named hnamed) (hpre vm₁ X₁.warmed)
  exact ⟨v, vm₁, B, X₁.warmed, X', hpost, fun target h => hstep₁ _ fun acts => by rw [doInvoke_state]; exact hsteps.trans h⟩
abbrev vx_CVW (R : Room) (s : State) (args : Array Value) (own C : String) (index : Nat) (y : MethodName) (bytes : ByteArray) (maxL : Nat) (ret : Option FieldType) (hh : List (Nat × Nat × Nat × Nat)) (ws : List Cond) (rm : Room) (mc ms n : Nat) : Prop :=
  (rm.cells = mc ∧ rm.slots = ms ∧ rm.frames + 1 ≤ R.frames ∧ 8 + (maxL + 11) + rm.locals ≤ R.locals ∧ (∀ w ∈ ws, ∀ (a' : Array Value) (U : State), s.WarmedH U.vm → w.before a' U = true) ∧ Cond.codeWith y bytes maxL ret hh ∈ ws) ∧
  (Cond.codeWith y bytes maxL ret hh).before args s = true ∧ (Cond.initialized y.cls).before args s = true ∧ (y.cls ≠ "java/lang/invoke/MethodHandle" ∧ y.cls ≠ "java/lang/invoke/VarHandle") ∧
  (∀ sig, parseMethodDescriptor y.desc = some sig → n = sig.parameters.length) ∧ (Cond.methodLink own index y).before args s = true ∧ (Cond.instanceMethod y).before args s = true ∧ (Cond.selects C y y).before args s = true
theorem vx_cwVW {own C : String} {index maxL mc ms : Nat} {y : MethodName} {bytes : ByteArray} {ret : Option FieldType} {hh : List (Nat × Nat × Nat × Nat)} {Ts ws ws' : List Cond} {rm : Room} (n : Nat) (ht : ∀ w ∈ Ts, w.before args s = true) (hT : GoodIn Ts (wsV own index C y ws)) (hw : ws = Cond.codeWith y bytes maxL ret hh :: ws') (hrc : rm.cells = mc) (hrs : rm.slots = ms)
    (hd : y.cls = C ∧ y.cls ≠ "java/lang/invoke/MethodHandle" ∧ y.cls ≠ "java/lang/invoke/VarHandle" ∧ (parseMethodDescriptor y.desc).map (fun d => d.parameters.length) = some n) (hR : rm.frames + 1 ≤ R.frames ∧ 8 + (maxL + 11) + rm.locals ≤ R.locals) :
    vx_CVW R s args own C index y bytes maxL ret hh ws rm mc ms n := by
  obtain ⟨hC, hd⟩ := hd
  subst hC
  have ok : ∀ w ∈ wsV own index y.cls y ws, w.before args s = true := fun w h => ht w (hT w h).1
  have hG : GoodIn Ts ws := fun w h => hT w (by unfold wsV; exact List.mem_append_right _ h)
  have hc : Cond.codeWith y bytes maxL ret hh ∈ ws := by rw [hw]; exact List.mem_cons_self
  refine ⟨⟨hrc, hrs, hR.1, hR.2, pay_in ht hG, hc⟩, ht _ (hG _ hc).1, ok _ (by simp [wsV]), ⟨hd.1, hd.2.1⟩, fun sig h => ?_, ok _ (by simp [wsV]), ok _ (by simp [wsV]), ok _ (by simp [wsV])⟩
  have h2 := hd.2.2
  rw [h] at h2
  exact (Option.some.inj h2).symm
theorem vx_runVW {y : MethodName} {bytes cc : ByteArray} {maxL nL mc ms n index : Nat} {ret : Option FieldType} {hh : List (Nat × Nat × Nat × Nat)} {ws : List Cond} {rm : Room} {Pc : Array Value → State → Prop} {Qc : Array Value → State → Outcome → State → Prop} {free : Addr → Prop} {Ts : List Cond} {own C : String} {b : Addr} {As rest : List Value} {g : JFrame}
    (S : CallFix p m c cc nL s args Ts own) (hM : Met l y ws rm Pc Qc mc ms free) (cw : vx_CVW R s args own C index y bytes maxL ret hh ws rm mc ms n) (hp : PreV s H C b Pc As)
    (hg : g.method = m) (hn : As.length = n) (hsize : g.locals.size = nL) (hstack : g.stack = As.reverse ++ .ref b :: rest) (hW : 2 * g.monitorRoom + (rest.map fun v => v.category).sum ≤ 8) (hdg : decode cc g.pc = .ok (.invokevirtual index, 3)) (hf : cells + mc ≤ R.cells ∧ slots + ms ≤ R.slots) :
    va_Run p l e R s m args below meth c H locs cells slots mc ms g rest (Qc (Value.ref b :: As).toArray) free := by
  obtain ⟨⟨hrc, hrs, hfr, hlo, hws, hcw⟩, hcode, hini, hy, hlen, hl, hin, hse⟩ := cw
  have hK : Back l R p e below s args y 3 8 (PreOf R mc ms Pc) (PostOf Qc mc ms free) := va_backW (hh := hh) (bytes := bytes) (maxL := maxL) (ret := ret) hM hp.1 hrc hrs hfr hlo hws hcw (fun a' U hW => word_at hW (Or.inl (by first | rfl | simp [Cond.onTables, Cond.keeps, Cond.steady])) hini)
  obtain ⟨hx, hb, hml, ho, -⟩ := S
  obtain ⟨-, ⟨cellB, hcB, hoB, hclB⟩, hPc⟩ := hp
  intro T hT X
  obtain ⟨v, vm₁, ⟨U', l2, c2, s2⟩, hW₁, X', ⟨g', mk, t, L, e1, e2, hq, h1, hL, h2, h3⟩, st⟩ := vx_callVW X hx (C := C) (hh := hh) (bytes := bytes) (maxL := maxL) (ret := ret) ho hl hin hse hcode hy hK (by rw [hT]; exact hcB) hoB hclB hg (hsize.trans hml.symm) (argsL := As) (rest := rest) (fun sig h => hn.trans (hlen sig h)) hstack hW (by rw [hb]; exact hdg)
    (fun vm₁ hW₁ => ⟨hf.1, hf.2, hPc (T.setVm vm₁) hT hW₁⟩)
  dsimp only [Pt.U, Pt.locs, Pt.cells, Pt.slots] at X' e1 e2 h1 h2 h3 st
  subst h1; subst h2; subst h3
  exact ⟨v, (T.setVm vm₁).calling g' mk (Value.ref b :: As).toArray, t, U', L, hT, X', hL, e1, e2, hq, st⟩
section
variable {y : MethodName} {bytes cc : ByteArray} {maxL nL mc ms n index : Nat} {ret : Option FieldType} {ws : List Cond} {rm : Room} {Pc : Array Value → State → Prop} {Qc : Array Value → State → Outcome → State → Prop} {XC : String → State → State → Prop} {free : Addr → Prop} {Ts : List Cond} {own C : String} {b : Addr} {As rest : List Value} {g : JFrame}
theorem vx_runVX {hh : List (Nat × Nat × Nat × Nat)} (S : CallFix p m c cc nL s args Ts own) (hM : vx_Met l y ws rm Pc Qc XC mc ms free) (cw : vx_CVW R s args own C index y bytes maxL ret hh ws rm mc ms n) (hp : PreV s H C b Pc As)
    (hg : g.method = m) (hn : As.length = n) (hsize : g.locals.size = nL) (hstack : g.stack = As.reverse ++ .ref b :: rest) (hW : 2 * g.monitorRoom + (rest.map fun v => v.category).sum ≤ 8) (hdg : decode cc g.pc = .ok (.invokevirtual index, 3)) (hf : cells + mc ≤ R.cells ∧ slots + ms ≤ R.slots) :
    vx_Run p l e R s m args below meth c H locs cells slots mc ms g rest (Qc (Value.ref b :: As).toArray) XC free := by
  obtain ⟨⟨hrc, hrs, hfr, hlo, hws, hcw⟩, hcode, hini, hy, hlen, hl, hin, hse⟩ := cw
  have hK : vx_Back l R p e below s args y 3 8 (PreOf R mc ms Pc) (PostOf Qc mc ms free) (vx_Post XC mc ms free) := vx_backW (hh := hh) (bytes := bytes) (maxL := maxL) (ret := ret) hM hp.1 hrc hrs hfr hlo hws hcw (fun a' U hW => word_at hW (Or.inl (by first | rfl | simp [Cond.onTables, Cond.keeps, Cond.steady])) hini)
  obtain ⟨hx, hb, hml, ho, -⟩ := S
  obtain ⟨-, ⟨cellB, hcB, hoB, hclB⟩, hPc⟩ := hp
  intro T hT X
  rcases vx_callVX X hx (C := C) (hh := hh) (bytes := bytes) (maxL := maxL) (ret := ret) ho hl hin hse hcode hy hK (by rw [hT]; exact hcB) hoB hclB hg (hsize.trans hml.symm) (argsL := As) (rest := rest) (fun sig h => hn.trans (hlen sig h)) hstack hW (by rw [hb]; exact hdg)
    (fun vm₁ hW₁ => ⟨hf.1, hf.2, hPc (T.setVm vm₁) hT hW₁⟩) with ⟨v, vm₁, ⟨U', l2, c2, s2⟩, hW₁, X', ⟨g', mk, t, L, e1, e2, hq, h1, hL, h2, h3⟩, st⟩ | ⟨q, vm₁, ⟨U', l2, c2, s2⟩, hW₁, X', ⟨g', mk, t, L, E, ce, e1, e2, hq, hce, hcv, hcl, h1, hL, h2, h3⟩, st⟩
  · dsimp only [Pt.U, Pt.locs, Pt.cells, Pt.slots] at X' e1 e2 h1 h2 h3 st
    subst h1; subst h2; subst h3
    exact Or.inl ⟨v, (T.setVm vm₁).calling g' mk (Value.ref b :: As).toArray, t, U', L, hT, X', hL, e1, e2, hq, st⟩
  · dsimp only [Pt.U, Pt.locs, Pt.cells, Pt.slots] at X' e1 e2 h1 h2 h3 st hcl
    subst h1; subst h2; subst h3
    exact Or.inr ⟨q, (T.setVm vm₁).calling g' mk (Value.ref b :: As).toArray, t, U', L, E, ce, hT, X', hL, e1, e2, hq, hce, hcv, vx_cls hW₁ hcl, st⟩
theorem vx_runSX {hh : List (Nat × Nat × Nat × Nat)} (S : CallFix p m c cc nL s args Ts own) (hM : vx_Met l y ws rm Pc Qc XC mc ms free) (cw : vx_CSW R s args own index y bytes maxL ret hh ws rm mc ms n) (hp : PreS s H Pc As)
    (hg : g.method = m) (hn : As.length = n) (hsize : g.locals.size = nL) (hstack : g.stack = As.reverse ++ rest) (hW : 2 * g.monitorRoom + (rest.map fun v => v.category).sum ≤ 8) (hdg : decode cc g.pc = .ok (.invokestatic index, 3)) (hf : cells + mc ≤ R.cells ∧ slots + ms ≤ R.slots) :
    vx_Run p l e R s m args below meth c H locs cells slots mc ms g rest (Qc As.toArray) XC free := by
  obtain ⟨⟨hrc, hrs, hfr, hlo, hws, hcw⟩, hcode, hini, hy, hlen, hl, hstt⟩ := cw
  have hK : vx_Back l R p e below s args y 3 8 (PreOf R mc ms Pc) (PostOf Qc mc ms free) (vx_Post XC mc ms free) := vx_backW (hh := hh) (bytes := bytes) (maxL := maxL) (ret := ret) hM hp.1 hrc hrs hfr hlo hws hcw (fun a' U hW => word_at hW (Or.inl (by first | rfl | simp [Cond.onTables, Cond.keeps, Cond.steady])) hini)
  obtain ⟨hx, hb, hml, ho, -⟩ := S
  intro T hT X
  rcases vx_callSX X hx (hh := hh) (bytes := bytes) (maxL := maxL) (ret := ret) ho hl hstt hini hcode hy hK hg (hsize.trans hml.symm) (argsL := As) (rest := rest) (fun sig h => hn.trans (hlen sig h)) hstack hW (by rw [hb]; exact hdg)
    (fun vm₁ hW₁ => ⟨hf.1, hf.2, hp.2 (T.setVm vm₁) hT hW₁⟩) with ⟨v, vm₁, ⟨U', l2, c2, s2⟩, hW₁, X', ⟨g', mk, t, L, e1, e2, hq, h1, hL, h2, h3⟩, st⟩ | ⟨q, vm₁, ⟨U', l2, c2, s2⟩, hW₁, X', ⟨g', mk, t, L, E, ce, e1, e2, hq, hce, hcv, hcl, h1, hL, h2, h3⟩, st⟩
  · dsimp only [Pt.U, Pt.locs, Pt.cells, Pt.slots] at X' e1 e2 h1 h2 h3 st
    subst h1; subst h2; subst h3
    exact Or.inl ⟨v, (T.setVm vm₁).calling g' mk As.toArray, t, U', L, hT, X', hL, e1, e2, hq, st⟩
  · dsimp only [Pt.U, Pt.locs, Pt.cells, Pt.slots] at X' e1 e2 h1 h2 h3 st hcl
    subst h1; subst h2; subst h3
    exact Or.inr ⟨q, (T.setVm vm₁).calling g' mk As.toArray, t, U', L, E, ce, hT, X', hL, e1, e2, hq, hce, hcv, vx_cls hW₁ hcl, st⟩
end
end VXH
theorem vx_ofWH {l : Launch} {y : MethodName} {ws ws' : List Cond} {rm : Room} {Pc : Array Value → State → Prop} {Qc : Array Value → State → Outcome → State → Prop} {XC : String → State → State → Prop} {mc ms : Nat} {free : Addr → Prop} {cc : ByteArray} {maxL : Nat} {ret : Option FieldType} {hh : List (Nat × Nat × Nat × Nat)}
    (hy : plainName y.cls = true) (hw : ws = Cond.codeWith y cc maxL ret hh :: ws')
    (body : ∀ p e s m args below meth c s₁, BodyLoose p l y (headSpec ws rm) cc maxL ret e s m args below meth c s₁ → c.maxLocals = maxL → Pc args s →
      W p l e (headSpec ws rm).room s m args below meth c s.heap [] 0 0 (vx_MQ below Qc XC args s mc ms free) (entryFrame m args maxL)) : vx_Met l y ws rm Pc Qc XC mc ms free := by
  refine MetFree.of_bodyS (code := cc) (maxLocals := maxL) (ret := ret) hy ?_ ?_
  · intro args s m h hn
    obtain ⟨m9, meth, c, hn9, h1, h2, h3, h4, -, h5, h6, -⟩ := Cond.codeWith_spec (atoms_spec (ws := ws) h _ (by rw [hw]; exact List.mem_cons_self))
    cases hn.symm.trans hn9
    exact ⟨meth, c, h1, h2, h3, h4, h5, h6⟩
  · intro p e s m args below meth c s₁ B hml hP _
    have hh0 : s₁.heap = s.heap := by rw [B.state]; rfl
    obtain ⟨t, a1, o, b1, b2, b3⟩ := body p e s m args below meth c s₁ B hml hP s₁ hh0 (Stand.of_body B)
    exact ⟨t, o, a1, b1, b2, b3⟩
/-! ===== END ===== -/
end
