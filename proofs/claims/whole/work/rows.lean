section
def lw_okq (q : MethodName × Nat) : Prop := (q.1.cls ≠ "java/lang/invoke/MethodHandle" ∧ q.1.cls ≠ "java/lang/invoke/VarHandle") ∧ Cond.instantiable q.1.cls q.2 ∈ tables_1 ∧ Cond.privateMethod q.1 ∈ tables_1 ∧ Cond.instanceMethod q.1 ∈ tables_1
theorem lw_p0 : lw_okq (⟨"PageRaster$Drawing", "tell", "(II)V"⟩, 15) := ⟨⟨by decide +kernel, by decide +kernel⟩, List.mem_of_getElem? (i := 38) (by decide +kernel), List.mem_of_getElem? (i := 255) (by decide +kernel), List.mem_of_getElem? (i := 256) (by decide +kernel)⟩
theorem lw_p1 : lw_okq (⟨"PageRaster$Drawing", "takeNumber", "(LPageRaster$Text;II)V"⟩, 15) := ⟨⟨by decide +kernel, by decide +kernel⟩, List.mem_of_getElem? (i := 38) (by decide +kernel), List.mem_of_getElem? (i := 268) (by decide +kernel), List.mem_of_getElem? (i := 269) (by decide +kernel)⟩
theorem lw_p2 : lw_okq (⟨"PageRaster$Drawing", "takeOperator", "(II)V"⟩, 15) := ⟨⟨by decide +kernel, by decide +kernel⟩, List.mem_of_getElem? (i := 38) (by decide +kernel), List.mem_of_getElem? (i := 285) (by decide +kernel), List.mem_of_getElem? (i := 286) (by decide +kernel)⟩
theorem lw_p3 : lw_okq (⟨"PageRaster$Drawing", "faultOf", "(I)I"⟩, 15) := ⟨⟨by decide +kernel, by decide +kernel⟩, List.mem_of_getElem? (i := 38) (by decide +kernel), List.mem_of_getElem? (i := 289) (by decide +kernel), List.mem_of_getElem? (i := 290) (by decide +kernel)⟩
theorem lw_p4 : lw_okq (⟨"PageRaster$Drawing", "isOutOfPlace", "(I)Z"⟩, 15) := ⟨⟨by decide +kernel, by decide +kernel⟩, List.mem_of_getElem? (i := 38) (by decide +kernel), List.mem_of_getElem? (i := 296) (by decide +kernel), List.mem_of_getElem? (i := 297) (by decide +kernel)⟩
theorem lw_p5 : lw_okq (⟨"PageRaster$Drawing", "prepare", "(I)Z"⟩, 15) := ⟨⟨by decide +kernel, by decide +kernel⟩, List.mem_of_getElem? (i := 38) (by decide +kernel), List.mem_of_getElem? (i := 303) (by decide +kernel), List.mem_of_getElem? (i := 304) (by decide +kernel)⟩
theorem lw_p6 : lw_okq (⟨"PageRaster$Drawing", "prepareMatrix", "()Z"⟩, 15) := ⟨⟨by decide +kernel, by decide +kernel⟩, List.mem_of_getElem? (i := 38) (by decide +kernel), List.mem_of_getElem? (i := 307) (by decide +kernel), List.mem_of_getElem? (i := 308) (by decide +kernel)⟩
theorem lw_p7 : lw_okq (⟨"PageRaster$Drawing", "preparePoint", "(III)Z"⟩, 15) := ⟨⟨by decide +kernel, by decide +kernel⟩, List.mem_of_getElem? (i := 38) (by decide +kernel), List.mem_of_getElem? (i := 323) (by decide +kernel), List.mem_of_getElem? (i := 324) (by decide +kernel)⟩
theorem lw_p8 : lw_okq (⟨"PageRaster$Drawing", "changeState", "(I)V"⟩, 15) := ⟨⟨by decide +kernel, by decide +kernel⟩, List.mem_of_getElem? (i := 38) (by decide +kernel), List.mem_of_getElem? (i := 330) (by decide +kernel), List.mem_of_getElem? (i := 331) (by decide +kernel)⟩
theorem lw_p9 : lw_okq (⟨"PageRaster$Drawing", "buildPath", "(I)V"⟩, 15) := ⟨⟨by decide +kernel, by decide +kernel⟩, List.mem_of_getElem? (i := 38) (by decide +kernel), List.mem_of_getElem? (i := 345) (by decide +kernel), List.mem_of_getElem? (i := 346) (by decide +kernel)⟩
theorem lw_p10 : lw_okq (⟨"PageRaster$Path", "hold", "(II)V"⟩, 12) := ⟨⟨by decide +kernel, by decide +kernel⟩, List.mem_of_getElem? (i := 62) (by decide +kernel), List.mem_of_getElem? (i := 357) (by decide +kernel), List.mem_of_getElem? (i := 358) (by decide +kernel)⟩
theorem lw_p11 : lw_okq (⟨"PageRaster$Drawing", "addCurve", "(II)V"⟩, 15) := ⟨⟨by decide +kernel, by decide +kernel⟩, List.mem_of_getElem? (i := 38) (by decide +kernel), List.mem_of_getElem? (i := 365) (by decide +kernel), List.mem_of_getElem? (i := 366) (by decide +kernel)⟩
theorem lw_p12 : lw_okq (⟨"PageRaster$Drawing", "usePath", "(I)V"⟩, 15) := ⟨⟨by decide +kernel, by decide +kernel⟩, List.mem_of_getElem? (i := 38) (by decide +kernel), List.mem_of_getElem? (i := 375) (by decide +kernel), List.mem_of_getElem? (i := 376) (by decide +kernel)⟩
theorem lw_p13 : lw_okq (⟨"PageRaster$Drawing", "finishPath", "(I)V"⟩, 15) := ⟨⟨by decide +kernel, by decide +kernel⟩, List.mem_of_getElem? (i := 38) (by decide +kernel), List.mem_of_getElem? (i := 379) (by decide +kernel), List.mem_of_getElem? (i := 380) (by decide +kernel)⟩
theorem lw_p14 : lw_okq (⟨"PageRaster$Path", "addCrossings", "(IIII)V"⟩, 12) := ⟨⟨by decide +kernel, by decide +kernel⟩, List.mem_of_getElem? (i := 62) (by decide +kernel), List.mem_of_getElem? (i := 389) (by decide +kernel), List.mem_of_getElem? (i := 390) (by decide +kernel)⟩
theorem lw_p15 : lw_okq (⟨"PageRaster$Drawing", "faultAtEnd", "()I"⟩, 15) := ⟨⟨by decide +kernel, by decide +kernel⟩, List.mem_of_getElem? (i := 38) (by decide +kernel), List.mem_of_getElem? (i := 397) (by decide +kernel), List.mem_of_getElem? (i := 398) (by decide +kernel)⟩
def lw_privs_1 : List (MethodName × Nat) := [(⟨"PageRaster$Drawing", "tell", "(II)V"⟩, 15), (⟨"PageRaster$Drawing", "takeNumber", "(LPageRaster$Text;II)V"⟩, 15), (⟨"PageRaster$Drawing", "takeOperator", "(II)V"⟩, 15), (⟨"PageRaster$Drawing", "faultOf", "(I)I"⟩, 15), (⟨"PageRaster$Drawing", "isOutOfPlace", "(I)Z"⟩, 15), (⟨"PageRaster$Drawing", "prepare", "(I)Z"⟩, 15), (⟨"PageRaster$Drawing", "prepareMatrix", "()Z"⟩, 15), (⟨"PageRaster$Drawing", "preparePoint", "(III)Z"⟩, 15), (⟨"PageRaster$Drawing", "changeState", "(I)V"⟩, 15), (⟨"PageRaster$Drawing", "buildPath", "(I)V"⟩, 15), (⟨"PageRaster$Path", "hold", "(II)V"⟩, 12), (⟨"PageRaster$Drawing", "addCurve", "(II)V"⟩, 15), (⟨"PageRaster$Drawing", "usePath", "(I)V"⟩, 15), (⟨"PageRaster$Drawing", "finishPath", "(I)V"⟩, 15), (⟨"PageRaster$Path", "addCrossings", "(IIII)V"⟩, 12), (⟨"PageRaster$Drawing", "faultAtEnd", "()I"⟩, 15)]
theorem lw_r1 : ∀ q ∈ lw_privs_1, lw_okq q := List.forall_mem_cons.mpr ⟨lw_p0, List.forall_mem_cons.mpr ⟨lw_p1, List.forall_mem_cons.mpr ⟨lw_p2, List.forall_mem_cons.mpr ⟨lw_p3, List.forall_mem_cons.mpr ⟨lw_p4, List.forall_mem_cons.mpr ⟨lw_p5, List.forall_mem_cons.mpr ⟨lw_p6, List.forall_mem_cons.mpr ⟨lw_p7, List.forall_mem_cons.mpr ⟨lw_p8, List.forall_mem_cons.mpr ⟨lw_p9, List.forall_mem_cons.mpr ⟨lw_p10, List.forall_mem_cons.mpr ⟨lw_p11, List.forall_mem_cons.mpr ⟨lw_p12, List.forall_mem_cons.mpr ⟨lw_p13, List.forall_mem_cons.mpr ⟨lw_p14, List.forall_mem_cons.mpr ⟨lw_p15, fun _ h => absurd h List.not_mem_nil⟩⟩⟩⟩⟩⟩⟩⟩⟩⟩⟩⟩⟩⟩⟩⟩
theorem lw_p16 : lw_okq (⟨"PageRasterModel", "token", "(I)I"⟩, 34) := ⟨⟨by decide +kernel, by decide +kernel⟩, List.mem_of_getElem? (i := 452) (by decide +kernel), List.mem_of_getElem? (i := 579) (by decide +kernel), List.mem_of_getElem? (i := 580) (by decide +kernel)⟩
theorem lw_p17 : lw_okq (⟨"PageRasterModel", "behind", "(I)I"⟩, 34) := ⟨⟨by decide +kernel, by decide +kernel⟩, List.mem_of_getElem? (i := 452) (by decide +kernel), List.mem_of_getElem? (i := 586) (by decide +kernel), List.mem_of_getElem? (i := 587) (by decide +kernel)⟩
theorem lw_p18 : lw_okq (⟨"PageRasterModel", "fail", "(II)V"⟩, 34) := ⟨⟨by decide +kernel, by decide +kernel⟩, List.mem_of_getElem? (i := 452) (by decide +kernel), List.mem_of_getElem? (i := 593) (by decide +kernel), List.mem_of_getElem? (i := 594) (by decide +kernel)⟩
theorem lw_p19 : lw_okq (⟨"PageRasterModel", "tokenEnd", "(I)I"⟩, 34) := ⟨⟨by decide +kernel, by decide +kernel⟩, List.mem_of_getElem? (i := 452) (by decide +kernel), List.mem_of_getElem? (i := 597) (by decide +kernel), List.mem_of_getElem? (i := 598) (by decide +kernel)⟩
theorem lw_p20 : lw_okq (⟨"PageRasterModel", "number", "(II)I"⟩, 34) := ⟨⟨by decide +kernel, by decide +kernel⟩, List.mem_of_getElem? (i := 452) (by decide +kernel), List.mem_of_getElem? (i := 604) (by decide +kernel), List.mem_of_getElem? (i := 605) (by decide +kernel)⟩
theorem lw_p21 : lw_okq (⟨"PageRasterModel", "operator", "(II)I"⟩, 34) := ⟨⟨by decide +kernel, by decide +kernel⟩, List.mem_of_getElem? (i := 452) (by decide +kernel), List.mem_of_getElem? (i := 608) (by decide +kernel), List.mem_of_getElem? (i := 609) (by decide +kernel)⟩
theorem lw_p22 : lw_okq (⟨"PageRasterModel", "wrong", "(I)I"⟩, 34) := ⟨⟨by decide +kernel, by decide +kernel⟩, List.mem_of_getElem? (i := 452) (by decide +kernel), List.mem_of_getElem? (i := 612) (by decide +kernel), List.mem_of_getElem? (i := 613) (by decide +kernel)⟩
theorem lw_p23 : lw_okq (⟨"PageRasterModel", "outside", "(I)Z"⟩, 34) := ⟨⟨by decide +kernel, by decide +kernel⟩, List.mem_of_getElem? (i := 452) (by decide +kernel), List.mem_of_getElem? (i := 619) (by decide +kernel), List.mem_of_getElem? (i := 620) (by decide +kernel)⟩
theorem lw_p24 : lw_okq (⟨"PageRasterModel", "far", "(II)Z"⟩, 34) := ⟨⟨by decide +kernel, by decide +kernel⟩, List.mem_of_getElem? (i := 452) (by decide +kernel), List.mem_of_getElem? (i := 623) (by decide +kernel), List.mem_of_getElem? (i := 624) (by decide +kernel)⟩
theorem lw_p25 : lw_okq (⟨"PageRasterModel", "joined", "(I)J"⟩, 34) := ⟨⟨by decide +kernel, by decide +kernel⟩, List.mem_of_getElem? (i := 452) (by decide +kernel), List.mem_of_getElem? (i := 629) (by decide +kernel), List.mem_of_getElem? (i := 630) (by decide +kernel)⟩
theorem lw_p26 : lw_okq (⟨"PageRasterModel", "act", "(I)V"⟩, 34) := ⟨⟨by decide +kernel, by decide +kernel⟩, List.mem_of_getElem? (i := 452) (by decide +kernel), List.mem_of_getElem? (i := 635) (by decide +kernel), List.mem_of_getElem? (i := 636) (by decide +kernel)⟩
theorem lw_p27 : lw_okq (⟨"PageRasterModel", "save", "()V"⟩, 34) := ⟨⟨by decide +kernel, by decide +kernel⟩, List.mem_of_getElem? (i := 452) (by decide +kernel), List.mem_of_getElem? (i := 639) (by decide +kernel), List.mem_of_getElem? (i := 640) (by decide +kernel)⟩
theorem lw_p28 : lw_okq (⟨"PageRasterModel", "restore", "()V"⟩, 34) := ⟨⟨by decide +kernel, by decide +kernel⟩, List.mem_of_getElem? (i := 452) (by decide +kernel), List.mem_of_getElem? (i := 643) (by decide +kernel), List.mem_of_getElem? (i := 644) (by decide +kernel)⟩
theorem lw_p29 : lw_okq (⟨"PageRasterModel", "move", "(II)V"⟩, 34) := ⟨⟨by decide +kernel, by decide +kernel⟩, List.mem_of_getElem? (i := 452) (by decide +kernel), List.mem_of_getElem? (i := 647) (by decide +kernel), List.mem_of_getElem? (i := 648) (by decide +kernel)⟩
theorem lw_p30 : lw_okq (⟨"PageRasterModel", "close", "()V"⟩, 34) := ⟨⟨by decide +kernel, by decide +kernel⟩, List.mem_of_getElem? (i := 452) (by decide +kernel), List.mem_of_getElem? (i := 651) (by decide +kernel), List.mem_of_getElem? (i := 652) (by decide +kernel)⟩
theorem lw_p31 : lw_okq (⟨"PageRasterModel", "edge", "(JJZ)V"⟩, 34) := ⟨⟨by decide +kernel, by decide +kernel⟩, List.mem_of_getElem? (i := 452) (by decide +kernel), List.mem_of_getElem? (i := 655) (by decide +kernel), List.mem_of_getElem? (i := 656) (by decide +kernel)⟩
def lw_privs_2 : List (MethodName × Nat) := [(⟨"PageRasterModel", "token", "(I)I"⟩, 34), (⟨"PageRasterModel", "behind", "(I)I"⟩, 34), (⟨"PageRasterModel", "fail", "(II)V"⟩, 34), (⟨"PageRasterModel", "tokenEnd", "(I)I"⟩, 34), (⟨"PageRasterModel", "number", "(II)I"⟩, 34), (⟨"PageRasterModel", "operator", "(II)I"⟩, 34), (⟨"PageRasterModel", "wrong", "(I)I"⟩, 34), (⟨"PageRasterModel", "outside", "(I)Z"⟩, 34), (⟨"PageRasterModel", "far", "(II)Z"⟩, 34), (⟨"PageRasterModel", "joined", "(I)J"⟩, 34), (⟨"PageRasterModel", "act", "(I)V"⟩, 34), (⟨"PageRasterModel", "save", "()V"⟩, 34), (⟨"PageRasterModel", "restore", "()V"⟩, 34), (⟨"PageRasterModel", "move", "(II)V"⟩, 34), (⟨"PageRasterModel", "close", "()V"⟩, 34), (⟨"PageRasterModel", "edge", "(JJZ)V"⟩, 34)]
theorem lw_r2 : ∀ q ∈ lw_privs_2, lw_okq q := List.forall_mem_cons.mpr ⟨lw_p16, List.forall_mem_cons.mpr ⟨lw_p17, List.forall_mem_cons.mpr ⟨lw_p18, List.forall_mem_cons.mpr ⟨lw_p19, List.forall_mem_cons.mpr ⟨lw_p20, List.forall_mem_cons.mpr ⟨lw_p21, List.forall_mem_cons.mpr ⟨lw_p22, List.forall_mem_cons.mpr ⟨lw_p23, List.forall_mem_cons.mpr ⟨lw_p24, List.forall_mem_cons.mpr ⟨lw_p25, List.forall_mem_cons.mpr ⟨lw_p26, List.forall_mem_cons.mpr ⟨lw_p27, List.forall_mem_cons.mpr ⟨lw_p28, List.forall_mem_cons.mpr ⟨lw_p29, List.forall_mem_cons.mpr ⟨lw_p30, List.forall_mem_cons.mpr ⟨lw_p31, fun _ h => absurd h List.not_mem_nil⟩⟩⟩⟩⟩⟩⟩⟩⟩⟩⟩⟩⟩⟩⟩⟩
theorem lw_p32 : lw_okq (⟨"PageRasterModel", "line", "(II)V"⟩, 34) := ⟨⟨by decide +kernel, by decide +kernel⟩, List.mem_of_getElem? (i := 452) (by decide +kernel), List.mem_of_getElem? (i := 659) (by decide +kernel), List.mem_of_getElem? (i := 660) (by decide +kernel)⟩
theorem lw_p33 : lw_okq (⟨"PageRasterModel", "curve", "()V"⟩, 34) := ⟨⟨by decide +kernel, by decide +kernel⟩, List.mem_of_getElem? (i := 452) (by decide +kernel), List.mem_of_getElem? (i := 663) (by decide +kernel), List.mem_of_getElem? (i := 664) (by decide +kernel)⟩
theorem lw_p34 : lw_okq (⟨"PageRasterModel", "finish", "(I)V"⟩, 34) := ⟨⟨by decide +kernel, by decide +kernel⟩, List.mem_of_getElem? (i := 452) (by decide +kernel), List.mem_of_getElem? (i := 673) (by decide +kernel), List.mem_of_getElem? (i := 674) (by decide +kernel)⟩
theorem lw_p35 : lw_okq (⟨"PageRasterModel", "inside", "(IIZ)Z"⟩, 34) := ⟨⟨by decide +kernel, by decide +kernel⟩, List.mem_of_getElem? (i := 452) (by decide +kernel), List.mem_of_getElem? (i := 677) (by decide +kernel), List.mem_of_getElem? (i := 678) (by decide +kernel)⟩
def lw_privs_3 : List (MethodName × Nat) := [(⟨"PageRasterModel", "line", "(II)V"⟩, 34), (⟨"PageRasterModel", "curve", "()V"⟩, 34), (⟨"PageRasterModel", "finish", "(I)V"⟩, 34), (⟨"PageRasterModel", "inside", "(IIZ)Z"⟩, 34)]
theorem lw_r3 : ∀ q ∈ lw_privs_3, lw_okq q := List.forall_mem_cons.mpr ⟨lw_p32, List.forall_mem_cons.mpr ⟨lw_p33, List.forall_mem_cons.mpr ⟨lw_p34, List.forall_mem_cons.mpr ⟨lw_p35, fun _ h => absurd h List.not_mem_nil⟩⟩⟩⟩
def lw_privs : List (MethodName × Nat) := lw_privs_1 ++ (lw_privs_2 ++ (lw_privs_3))
def lw_tbl : List Cond := k2_sels lw_privs ++ tables_1
theorem lw_privs_ok : ∀ q ∈ lw_privs, lw_okq q := by
  show ∀ q ∈ lw_privs_1 ++ (lw_privs_2 ++ (lw_privs_3)), lw_okq q
  exact List.forall_mem_append.mpr ⟨lw_r1, List.forall_mem_append.mpr ⟨lw_r2, lw_r3⟩⟩
end
section
def xnM : Nat := 111
def xYs : List MethodName := [⟨"PageRasterLaw", "law", "([I)Z"⟩, ⟨"PageRaster", "<init>", "()V"⟩, ⟨"PageRaster$Text", "<init>", "()V"⟩, ⟨"PageRaster$Drawing", "<init>", "()V"⟩, ⟨"PageRaster$Page", "<init>", "()V"⟩, ⟨"PageRaster$Path", "<init>", "()V"⟩, ⟨"PageRaster$State", "<init>", "()V"⟩, ⟨"PageRaster", "feed", "(I)I"⟩, ⟨"PageRaster$Text", "append", "(I)I"⟩, ⟨"PageRaster$Text", "codeIn", "(II)I"⟩, ⟨"PageRaster", "length", "()I"⟩, ⟨"PageRaster", "clear", "()V"⟩, ⟨"PageRaster", "draw", "(II)I"⟩, ⟨"PageRaster$Drawing", "start", "(II)V"⟩, ⟨"PageRaster$Page", "start", "(II)V"⟩, ⟨"java/util/Arrays", "fill", "([II)V"⟩, ⟨"PageRaster$Path", "drop", "()V"⟩, ⟨"PageRaster$Drawing", "state", "()LPageRaster$State;"⟩, ⟨"PageRaster$State", "start", "(II)V"⟩, ⟨"PageRaster$Drawing", "run", "(LPageRaster$Text;)V"⟩, ⟨"PageRaster$Text", "endOfPiece", "(I)I"⟩, ⟨"PageRaster$Text", "isTokenPart", "(I)Z"⟩, ⟨"PageRaster$Text", "isBlank", "(I)Z"⟩, ⟨"PageRaster$Text", "isBarred", "(I)Z"⟩, ⟨"PageRaster$Drawing", "tell", "(II)V"⟩, ⟨"PageRaster$Text", "beginsNumber", "(I)Z"⟩, ⟨"PageRaster$Text", "isDigit", "(I)Z"⟩, ⟨"PageRaster$Text", "isSign", "(I)Z"⟩, ⟨"PageRaster$Drawing", "takeNumber", "(LPageRaster$Text;II)V"⟩, ⟨"PageRaster$Text", "isNumber", "(II)Z"⟩, ⟨"PageRaster$Text", "numberIn", "(II)I"⟩, ⟨"PageRaster$Text", "operatorIn", "(II)I"⟩, ⟨"PageRaster$Drawing", "takeOperator", "(II)V"⟩, ⟨"PageRaster$Drawing", "faultOf", "(I)I"⟩, ⟨"PageRaster$Drawing", "operandsOf", "(I)I"⟩, ⟨"PageRaster$Drawing", "isOutOfPlace", "(I)Z"⟩, ⟨"PageRaster$Drawing", "needsPath", "(I)Z"⟩, ⟨"PageRaster$Drawing", "prepare", "(I)Z"⟩, ⟨"PageRaster$Drawing", "prepareMatrix", "()Z"⟩, ⟨"PageRaster$State", "pageX", "(JJ)J"⟩, ⟨"PageRaster$State", "pageY", "(JJ)J"⟩, ⟨"PageRaster$Drawing", "isWithin", "(JI)Z"⟩, ⟨"PageRaster$Drawing", "preparePoint", "(III)Z"⟩, ⟨"PageRaster$Drawing", "edgesOf", "(I)I"⟩, ⟨"PageRaster$Drawing", "changeState", "(I)V"⟩, ⟨"PageRaster$State", "copyFrom", "(LPageRaster$State;)V"⟩, ⟨"java/lang/Math", "max", "(II)I"⟩, ⟨"PageRaster$Drawing", "buildPath", "(I)V"⟩, ⟨"PageRaster$Path", "begin", "(II)V"⟩, ⟨"PageRaster$Path", "endSubpath", "()V"⟩, ⟨"PageRaster$Path", "hold", "(II)V"⟩, ⟨"PageRaster$Path", "edgeTo", "(II)V"⟩, ⟨"PageRaster$Drawing", "addCurve", "(II)V"⟩, ⟨"PageRaster$Drawing", "curveAt", "(II[I)I"⟩, ⟨"java/lang/Math", "floorDiv", "(II)I"⟩, ⟨"PageRaster$Drawing", "usePath", "(I)V"⟩, ⟨"PageRaster$Drawing", "finishPath", "(I)V"⟩, ⟨"PageRaster$Path", "insideOfRow", "(III)I"⟩, ⟨"PageRaster$Path", "addCrossings", "(IIII)V"⟩, ⟨"PageRaster$Page", "paintRow", "(III)V"⟩, ⟨"PageRaster$Drawing", "faultAtEnd", "()I"⟩, ⟨"PageRaster", "fault", "()I"⟩, ⟨"PageRaster", "faultAt", "()I"⟩, ⟨"PageRaster", "pixel", "(II)I"⟩, ⟨"PageRaster$Page", "valueAt", "(II)I"⟩, ⟨"PageRaster", "area", "(I)I"⟩, ⟨"PageRaster$Page", "countOf", "(I)I"⟩, ⟨"PageRaster", "fills", "()I"⟩, ⟨"PageRaster", "edges", "()I"⟩, ⟨"PageRaster", "depth", "()I"⟩, ⟨"PageRaster", "clipped", "()I"⟩, ⟨"PageRaster$State", "clipSize", "()I"⟩, ⟨"java/lang/Integer", "bitCount", "(I)I"⟩, ⟨"PageRasterModel", "<init>", "()V"⟩, ⟨"PageRasterModel", "feed", "(I)I"⟩, ⟨"PageRasterModel", "length", "()I"⟩, ⟨"PageRasterModel", "clear", "()V"⟩, ⟨"PageRasterModel", "draw", "(II)I"⟩, ⟨"PageRasterModel", "token", "(I)I"⟩, ⟨"PageRasterModel", "blank", "(I)Z"⟩, ⟨"PageRasterModel", "behind", "(I)I"⟩, ⟨"PageRasterModel", "barred", "(I)Z"⟩, ⟨"PageRasterModel", "fail", "(II)V"⟩, ⟨"PageRasterModel", "tokenEnd", "(I)I"⟩, ⟨"PageRasterModel", "digit", "(I)Z"⟩, ⟨"PageRasterModel", "number", "(II)I"⟩, ⟨"PageRasterModel", "operator", "(II)I"⟩, ⟨"PageRasterModel", "wrong", "(I)I"⟩, ⟨"PageRasterModel", "needs", "(I)I"⟩, ⟨"PageRasterModel", "outside", "(I)Z"⟩, ⟨"PageRasterModel", "far", "(II)Z"⟩, ⟨"PageRasterModel", "joined", "(I)J"⟩, ⟨"PageRasterModel", "act", "(I)V"⟩, ⟨"PageRasterModel", "save", "()V"⟩, ⟨"PageRasterModel", "restore", "()V"⟩, ⟨"PageRasterModel", "move", "(II)V"⟩, ⟨"PageRasterModel", "close", "()V"⟩, ⟨"PageRasterModel", "edge", "(JJZ)V"⟩, ⟨"PageRasterModel", "line", "(II)V"⟩, ⟨"PageRasterModel", "curve", "()V"⟩, ⟨"PageRasterModel", "along", "(JJJJJ)J"⟩, ⟨"PageRasterModel", "finish", "(I)V"⟩, ⟨"PageRasterModel", "inside", "(IIZ)Z"⟩, ⟨"PageRasterModel", "fault", "()I"⟩, ⟨"PageRasterModel", "faultAt", "()I"⟩, ⟨"PageRasterModel", "pixel", "(II)I"⟩, ⟨"PageRasterModel", "area", "(I)I"⟩, ⟨"PageRasterModel", "fills", "()I"⟩, ⟨"PageRasterModel", "edges", "()I"⟩, ⟨"PageRasterModel", "depth", "()I"⟩, ⟨"PageRasterModel", "clipped", "()I"⟩]
def xY (j : Nat) : MethodName := xYs.getD j ⟨"", "", ""⟩
def xBs : List ByteArray := [code, prog_1_method_1_code, prog_6_method_1_code, prog_2_method_1_code, prog_3_method_1_code, prog_4_method_1_code, prog_5_method_1_code, prog_1_method_2_code, prog_6_method_2_code, prog_6_method_3_code, prog_1_method_3_code, prog_1_method_4_code, prog_1_method_5_code, prog_2_method_3_code, prog_3_method_2_code, prog_12_method_103_code, prog_4_method_2_code, prog_2_method_2_code, prog_5_method_2_code, prog_2_method_4_code, prog_6_method_4_code, prog_6_method_5_code, prog_6_method_6_code, prog_6_method_7_code, prog_2_method_5_code, prog_6_method_8_code, prog_6_method_9_code, prog_6_method_10_code, prog_2_method_7_code, prog_6_method_11_code, prog_6_method_12_code, prog_6_method_13_code, prog_2_method_8_code, prog_2_method_9_code, prog_2_method_10_code, prog_2_method_11_code, prog_2_method_12_code, prog_2_method_14_code, prog_2_method_16_code, prog_5_method_4_code, prog_5_method_5_code, prog_2_method_17_code, prog_2_method_15_code, prog_2_method_13_code, prog_2_method_18_code, prog_5_method_3_code, prog_10_method_65_code, prog_2_method_19_code, prog_4_method_3_code, prog_4_method_5_code, prog_4_method_6_code, prog_4_method_4_code, prog_2_method_21_code, prog_2_method_22_code, prog_10_method_47_code, prog_2_method_20_code, prog_2_method_23_code, prog_4_method_7_code, prog_4_method_8_code, prog_3_method_5_code, prog_2_method_6_code, prog_1_method_6_code, prog_1_method_7_code, prog_1_method_8_code, prog_3_method_3_code, prog_1_method_9_code, prog_3_method_4_code, prog_1_method_10_code, prog_1_method_11_code, prog_1_method_12_code, prog_1_method_13_code, prog_5_method_6_code, prog_9_method_49_code, prog_8_method_1_code, prog_8_method_2_code, prog_8_method_3_code, prog_8_method_4_code, prog_8_method_13_code, prog_8_method_15_code, prog_8_method_5_code, prog_8_method_8_code, prog_8_method_6_code, prog_8_method_14_code, prog_8_method_9_code, prog_8_method_7_code, prog_8_method_10_code, prog_8_method_11_code, prog_8_method_18_code, prog_8_method_12_code, prog_8_method_19_code, prog_8_method_16_code, prog_8_method_17_code, prog_8_method_30_code, prog_8_method_28_code, prog_8_method_29_code, prog_8_method_22_code, prog_8_method_21_code, prog_8_method_20_code, prog_8_method_23_code, prog_8_method_25_code, prog_8_method_24_code, prog_8_method_27_code, prog_8_method_26_code, prog_8_method_31_code, prog_8_method_32_code, prog_8_method_33_code, prog_8_method_34_code, prog_8_method_35_code, prog_8_method_36_code, prog_8_method_37_code, prog_8_method_38_code]
def xB (j : Nat) : ByteArray := xBs.getD j code
def xnLs : List Nat := [4, 1, 1, 2, 1, 1, 1, 2, 4, 2, 1, 1, 3, 3, 3, 4, 1, 1, 4, 5, 3, 1, 1, 1, 3, 1, 1, 1, 4, 5, 5, 3, 4, 3, 1, 2, 1, 4, 8, 5, 5, 3, 8, 1, 2, 2, 2, 2, 3, 1, 3, 3, 4, 5, 3, 2, 4, 7, 14, 5, 1, 1, 1, 3, 3, 2, 5, 1, 1, 1, 1, 3, 1, 1, 4, 1, 1, 5, 6, 1, 3, 1, 3, 3, 1, 6, 5, 3, 1, 4, 3, 4, 15, 2, 2, 4, 1, 6, 4, 20, 14, 5, 13, 1, 1, 3, 5, 1, 1, 1, 4]
def xnL (j : Nat) : Nat := xnLs.getD j 0
def xRks : List Nat := [1, 4, 4, 4, 4, 4, 4, 0, 0, 0, 0, 4, 0, 4, 4, 4, 4, 3, 4, 4, 0, 1, 1, 1, 4, 1, 1, 1, 4, 1, 0, 0, 4, 0, 0, 1, 1, 1, 1, 2, 2, 1, 1, 0, 4, 4, 0, 4, 4, 4, 4, 4, 4, 0, 0, 4, 4, 0, 4, 4, 0, 0, 0, 0, 0, 0, 0, 0, 0, 0, 0, 0, 0, 4, 0, 0, 4, 0, 0, 1, 0, 1, 4, 0, 1, 0, 0, 0, 0, 1, 1, 2, 4, 4, 4, 4, 4, 4, 4, 4, 2, 4, 1, 0, 0, 0, 0, 0, 0, 0, 0]
def xRk (j : Nat) : Nat := xRks.getD j 4
def xOs : List Nat := [7, 0, 5, 1, 2, 3, 4, 0, 5, 5, 0, 0, 0, 1, 2, 8, 3, 1, 4, 1, 5, 5, 5, 5, 1, 5, 5, 5, 1, 5, 5, 5, 1, 1, 1, 1, 1, 1, 1, 4, 4, 1, 1, 1, 1, 4, 9, 1, 3, 3, 3, 3, 1, 1, 9, 1, 1, 3, 3, 2, 1, 0, 0, 0, 2, 0, 2, 0, 0, 0, 0, 4, 10, 6, 6, 6, 6, 6, 6, 6, 6, 6, 6, 6, 6, 6, 6, 6, 6, 6, 6, 6, 6, 6, 6, 6, 6, 6, 6, 6, 6, 6, 6, 6, 6, 6, 6, 6, 6, 6, 6]
def xO (j : Nat) : Nat := xOs.getD j 0
def xONs : List String := ["PageRaster", "PageRaster$Drawing", "PageRaster$Page", "PageRaster$Path", "PageRaster$State", "PageRaster$Text", "PageRasterModel", "PageRasterLaw", "java/util/Arrays", "java/lang/Math", "java/lang/Integer"]
def xON (o : Nat) : String := xONs.getD o ""
def xCN (ci : Nat) : String := xONs.getD ci ""
def xFds : List (List (String × String × Bool)) := [[("text", "LPageRaster$Text;", true), ("latest", "LPageRaster$Drawing;", true)], [("page", "LPageRaster$Page;", true), ("path", "LPageRaster$Path;", true), ("states", "[LPageRaster$State;", true), ("operands", "[I", true), ("pointX", "[I", true), ("pointY", "[I", true), ("newMatrix", "[I", true), ("operandCount", "I", false), ("saved", "I", false), ("clipRule", "I", false), ("faultNumber", "I", false), ("faultPlace", "I", false), ("fillCount", "I", false), ("mostEdges", "I", false), ("mostSaved", "I", false)], [("values", "[I", true), ("width", "I", false), ("height", "I", false)], [("fromX", "[I", true), ("fromY", "[I", true), ("toX", "[I", true), ("toY", "[I", true), ("windings", "[I", true), ("edgesHeld", "I", false), ("edgesMade", "I", false), ("exists", "Z", false), ("beginX", "I", false), ("beginY", "I", false), ("currentX", "I", false), ("currentY", "I", false)], [("matrix", "[I", true), ("clip", "[I", true), ("grey", "I", false)], [("codes", "[I", true), ("size", "I", false)], [("text", "[I", true), ("length", "I", false), ("wide", "I", false), ("high", "I", false), ("page", "[I", true), ("clip", "[Z", true), ("matrix", "[J", true), ("grey", "I", false), ("oldMatrix", "[J", true), ("oldGrey", "[I", true), ("oldClip", "[Z", true), ("saved", "I", false), ("ax", "[J", true), ("ay", "[J", true), ("bx", "[J", true), ("by", "[J", true), ("edges", "I", false), ("own", "I", false), ("path", "Z", false), ("cutting", "I", false), ("startX", "J", false), ("startY", "J", false), ("nowX", "J", false), ("nowY", "J", false), ("operand", "[I", true), ("operands", "I", false), ("fault", "I", false), ("faultAt", "I", false), ("fills", "I", false), ("most", "I", false), ("depth", "I", false), ("drawn", "Z", false), ("px", "J", false), ("py", "J", false)]]
def xFd (ci k : Nat) : String × String × Bool := (xFds.getD ci []).getD k ("", "I", false)
def xFKs : List (List Nat) := [[3, 3], [3, 3, 3, 3, 3, 3, 3, 0, 0, 0, 0, 0, 0, 0, 0], [3, 0, 0], [3, 3, 3, 3, 3, 0, 0, 1, 0, 0, 0, 0], [3, 3, 0], [3, 0], [3, 0, 0, 0, 3, 3, 3, 0, 3, 3, 3, 0, 3, 3, 3, 3, 0, 0, 1, 0, 2, 2, 2, 2, 3, 0, 0, 0, 0, 0, 0, 1, 2, 2]]
def xFK (ci k : Nat) : Nat := (xFKs.getD ci []).getD k 0
def xFn (ci k : Nat) : Bool := (xFd ci k).2.2
def xNFs : List Nat := [2, 15, 3, 12, 3, 2, 34]
def xNF (ci : Nat) : Nat := xNFs.getD ci 0
def xT (ci : Nat) : u_T := fun k => (xCN ci, (xFd ci k).1, (xFd ci k).2.1, (xFd ci k).2.2)
def xCl : List vw_C := (List.range 7).map (fun ci => (xCN ci, xT ci, xNF ci))
def xty (ci k : Nat) : FieldType := (parseFieldDescriptor (xT ci k).2.2.1).getD .int
def xref (t : FieldType) : Bool := match t with
  | .object _ => true
  | .array _ => true
  | _ => false
def xIni (j : Nat) : Option Nat := if (xY j).name = "<init>" then some (xO j) else none
abbrev xST : Nat := 4
abbrev xSTn : String := xCN xST
def xfind {α : Type} (l : List (List (Nat × α))) (o i : Nat) : Option α := ((l.getD o []).find? (fun r => r.1 == i)).map (fun r => r.2)
theorem xfind_mem {α : Type} {l : List (List (Nat × α))} {o i : Nat} {q : α} (h : xfind l o i = some q) : (i, q) ∈ l.getD o [] := by
  unfold xfind at h
  cases hf : (l.getD o []).find? (fun r => r.1 == i) with
  | none => rw [hf] at h; cases h
  | some r =>
    rw [hf] at h
    cases h
    have h1 := List.find?_some hf
    have h2 : r.1 = i := by simpa using h1
    rw [← h2]
    exact List.mem_of_find?_eq_some hf
def xAll {α : Type} (P : α → Prop) : List α → Prop
  | [] => True
  | a :: as => P a ∧ xAll P as
theorem xAll_mem {α : Type} {P : α → Prop} : ∀ {l : List α} {a : α}, xAll P l → a ∈ l → P a
  | _ :: _, _, h, ha => by
    rcases List.mem_cons.mp ha with rfl | ha
    · exact h.1
    · exact xAll_mem h.2 ha
def xLM : List (List (Nat × Nat × Nat × Nat × Nat)) := [[(1, 3, 0, 0, 0), (9, 6, 2, 0, 5), (18, 2, 3, 0, 1), (23, 0, 8, 1, 5), (31, 0, 13, 2, 1), (35, 0, 19, 1, 1), (49, 0, 64, 2, 2), (55, 0, 66, 1, 2), (67, 0, 17, 0, 1), (71, 0, 71, 0, 4)], [(3, 3, 0, 0, 0), (11, 6, 4, 0, 2), (20, 6, 5, 0, 3), (44, 6, 6, 0, 4), (52, 0, 14, 2, 2), (56, 0, 16, 0, 3), (77, 0, 17, 0, 1), (81, 0, 18, 2, 4), (90, 0, 20, 1, 5), (94, 1, 23, 1, 0), (98, 0, 24, 2, 1), (101, 1, 25, 1, 0), (104, 0, 28, 3, 1), (131, 0, 29, 2, 5), (135, 0, 30, 2, 5), (108, 1, 21, 1, 0), (111, 0, 31, 2, 5), (115, 0, 32, 2, 1), (138, 0, 33, 1, 1), (151, 1, 34, 1, 0), (154, 0, 35, 1, 1), (157, 1, 36, 1, 0), (160, 0, 37, 1, 1), (169, 0, 38, 0, 1), (177, 0, 39, 2, 4), (181, 0, 40, 2, 4), (184, 1, 41, 2, 0), (173, 0, 42, 3, 1), (166, 1, 43, 1, 0), (141, 0, 44, 1, 1), (192, 0, 45, 1, 4), (118, 1, 46, 2, 0), (196, 4, 0, 0, 0), (145, 0, 47, 1, 1), (205, 0, 48, 2, 3), (208, 0, 51, 2, 3), (223, 0, 52, 2, 1), (229, 1, 53, 3, 0), (233, 1, 54, 2, 0), (148, 0, 55, 1, 1), (226, 0, 56, 1, 1), (236, 0, 49, 0, 3), (245, 0, 57, 3, 3), (252, 0, 59, 3, 2), (123, 0, 60, 0, 1)], [(3, 3, 0, 0, 0), (22, 1, 15, 2, 0)], [(3, 3, 0, 0, 0), (50, 0, 49, 0, 3), (53, 0, 50, 2, 3), (57, 1, 15, 2, 0), (63, 0, 58, 4, 3)], [(3, 3, 0, 0, 0), (18, 1, 15, 2, 0), (28, 4, 0, 0, 0), (34, 1, 72, 1, 0)], [(3, 3, 0, 0, 0), (15, 1, 9, 2, 0), (23, 1, 21, 1, 0), (27, 1, 22, 1, 0), (30, 1, 23, 1, 0), (33, 1, 26, 1, 0), (36, 1, 27, 1, 0)], [(1, 3, 0, 0, 0), (102, 0, 78, 1, 6), (55, 1, 79, 1, 0), (110, 0, 80, 1, 6), (59, 1, 81, 1, 0), (106, 0, 82, 2, 6), (113, 0, 83, 1, 6), (62, 1, 84, 1, 0), (116, 0, 85, 2, 6), (120, 0, 86, 2, 6), (123, 0, 87, 1, 6), (141, 1, 88, 1, 0), (144, 0, 89, 1, 6), (150, 0, 90, 2, 6), (154, 0, 91, 1, 6), (126, 0, 92, 1, 6), (200, 0, 93, 0, 6), (203, 0, 94, 0, 6), (206, 0, 95, 2, 6), (181, 0, 96, 0, 6), (177, 0, 97, 3, 6), (209, 0, 98, 2, 6), (212, 0, 99, 0, 6), (190, 1, 100, 5, 0), (215, 0, 101, 1, 6), (196, 0, 102, 3, 6)], [(9, 2, 1, 0, 0), (13, 0, 7, 1, 0), (18, 0, 10, 0, 0), (23, 0, 11, 0, 0), (27, 0, 12, 2, 0), (32, 0, 61, 0, 0), (36, 0, 62, 0, 0), (40, 0, 63, 2, 0), (44, 0, 65, 1, 0), (48, 0, 67, 0, 0), (52, 0, 68, 0, 0), (56, 0, 69, 0, 0), (60, 0, 70, 0, 0), (12, 2, 73, 0, 6), (17, 0, 74, 1, 6), (22, 0, 75, 0, 6), (26, 0, 76, 0, 6), (31, 0, 77, 2, 6), (35, 0, 103, 0, 6), (39, 0, 104, 0, 6), (43, 0, 105, 2, 6), (47, 0, 106, 1, 6), (51, 0, 107, 0, 6), (55, 0, 108, 0, 6), (59, 0, 109, 0, 6), (63, 0, 110, 0, 6)], [], [], []]
def xLF : List (List (Nat × Nat × Nat)) := [[(27, 5, 1), (45, 1, 0), (39, 1, 10), (42, 1, 11), (58, 1, 12), (61, 1, 13), (64, 1, 14), (10, 0, 0), (19, 0, 1)], [(87, 5, 0), (82, 5, 1), (242, 2, 1), (239, 2, 2), (163, 3, 6), (127, 3, 7), (211, 3, 8), (214, 3, 9), (217, 3, 10), (220, 3, 11), (188, 4, 0), (249, 4, 1), (202, 4, 2), (12, 1, 0), (21, 1, 1), (27, 1, 2), (31, 1, 3), (35, 1, 4), (38, 1, 5), (41, 1, 6), (59, 1, 7), (49, 1, 8), (62, 1, 9), (65, 1, 10), (45, 1, 11), (68, 1, 12), (71, 1, 13), (74, 1, 14)], [(9, 2, 0), (15, 2, 1), (19, 2, 2)], [(9, 3, 0), (15, 3, 1), (18, 3, 2), (21, 3, 3), (24, 3, 4), (27, 3, 5), (31, 3, 6), (34, 3, 7), (38, 3, 8), (44, 3, 9), (41, 3, 10), (47, 3, 11)], [(9, 4, 0), (15, 4, 1), (24, 4, 2)], [(9, 5, 0), (19, 5, 1)], [(7, 6, 0), (52, 6, 1), (65, 6, 2), (68, 6, 3), (13, 6, 4), (16, 6, 5), (20, 6, 6), (71, 6, 7), (24, 6, 8), (27, 6, 9), (30, 6, 10), (74, 6, 11), (33, 6, 12), (36, 6, 13), (39, 6, 14), (42, 6, 15), (162, 6, 16), (147, 6, 17), (77, 6, 18), (81, 6, 19), (171, 6, 20), (174, 6, 21), (165, 6, 22), (168, 6, 23), (45, 6, 24), (84, 6, 25), (99, 6, 26), (48, 6, 27), (87, 6, 28), (90, 6, 29), (93, 6, 30), (96, 6, 31), (130, 6, 32), (134, 6, 33)], [], [], [], []]
def xTC : List (List (Nat × Nat × Nat)) := [[(7, 5, 2), (16, 1, 15)], [(9, 2, 3), (18, 3, 12), (25, 4, 3)], [], [], [], [], [], [(7, 0, 2), (10, 6, 34)], [], [], []]
def xLK : List (List (Nat × Int32)) := [[], [(191, 1000000)], [], [], [], [], [], [], [], [], [(265, 1431655765), (266, 858993459), (267, 252645135)]]
def xLJ : List (List (Nat × Int64)) := [[], [], [], [], [], [], [(137, -32767), (139, 32767), (158, -1000000), (160, 1000000), (184, 4), (186, 3), (188, 32), (194, 2)], [], [], [], []]
def xlM (o i : Nat) : Option (Nat × Nat × Nat × Nat) := xfind xLM o i
def xlF (o i : Nat) : Option (Nat × Nat) := xfind xLF o i
def xlC (o i : Nat) : Option (Nat × Nat) := xfind xTC o i
def xlK (o i : Nat) : Option Int32 := xfind xLK o i
def xlJ (o i : Nat) : Option Int64 := xfind xLJ o i
def xlA (o i : Nat) : Bool := (xlC o i).map (fun q => q.1) == some xST
def xNs : List (String × Nat × MethodName × String) := [("PageRaster", 9, ⟨"PageRaster$Text", "<init>", "()V"⟩, "PageRaster"), ("PageRaster$Drawing", 11, ⟨"PageRaster$Page", "<init>", "()V"⟩, "PageRaster"), ("PageRaster$Drawing", 20, ⟨"PageRaster$Path", "<init>", "()V"⟩, "PageRaster"), ("PageRaster$Drawing", 44, ⟨"PageRaster$State", "<init>", "()V"⟩, "PageRaster")]
def xgw : List Cond := lw_tbl.filter goodWord
theorem xin {w : Cond} (h : w ∈ lw_tbl) (g : goodWord w = true) : w ∈ xgw := List.mem_filter.mpr ⟨h, g⟩
def xRt (k : Nat) : Option FieldType := match xRk k with
  | 0 => some .int
  | 1 => some .boolean
  | 2 => some .long
  | 3 => some (.object xSTn)
  | _ => none
end
section
theorem w_in_0 : Cond.initialized (xON 0) ∈ xgw := xin (List.mem_of_getElem? (i := 37) (by decide +kernel)) rfl
theorem w_in_1 : Cond.initialized (xON 1) ∈ xgw := xin (List.mem_of_getElem? (i := 39) (by decide +kernel)) rfl
theorem w_in_2 : Cond.initialized (xON 2) ∈ xgw := xin (List.mem_of_getElem? (i := 40) (by decide +kernel)) rfl
theorem w_in_3 : Cond.initialized (xON 3) ∈ xgw := xin (List.mem_of_getElem? (i := 41) (by decide +kernel)) rfl
theorem w_in_4 : Cond.initialized (xON 4) ∈ xgw := xin (List.mem_of_getElem? (i := 42) (by decide +kernel)) rfl
theorem w_in_5 : Cond.initialized (xON 5) ∈ xgw := xin (List.mem_of_getElem? (i := 38) (by decide +kernel)) rfl
theorem w_in_6 : Cond.initialized (xON 6) ∈ xgw := xin (List.mem_of_getElem? (i := 43) (by decide +kernel)) rfl
theorem w_in_7 : Cond.initialized (xON 7) ∈ xgw := xin (List.mem_of_getElem? (i := 36) (by decide +kernel)) rfl
theorem w_in_8 : Cond.initialized (xON 8) ∈ xgw := xin (List.mem_of_getElem? (i := 44) (by decide +kernel)) rfl
theorem w_in_9 : Cond.initialized (xON 9) ∈ xgw := xin (List.mem_of_getElem? (i := 46) (by decide +kernel)) rfl
theorem w_in_10 : Cond.initialized (xON 10) ∈ xgw := xin (List.mem_of_getElem? (i := 47) (by decide +kernel)) rfl
set_option maxRecDepth 20000 in
theorem w_co_1 : Cond.code (xY 1) (xB 1) (xnL 1) (xRt 1) ∈ xgw := xin (List.mem_of_getElem? (i := 52) rfl) rfl
theorem w_im_1 : Cond.instanceMethod (xY 1) ∈ xgw := xin (List.mem_of_getElem? (i := 51) (by decide +kernel)) rfl
set_option maxRecDepth 20000 in
theorem w_co_2 : Cond.code (xY 2) (xB 2) (xnL 2) (xRt 2) ∈ xgw := xin (List.mem_of_getElem? (i := 60) rfl) rfl
theorem w_im_2 : Cond.instanceMethod (xY 2) ∈ xgw := xin (List.mem_of_getElem? (i := 59) (by decide +kernel)) rfl
set_option maxRecDepth 20000 in
theorem w_co_3 : Cond.code (xY 3) (xB 3) (xnL 3) (xRt 3) ∈ xgw := xin (List.mem_of_getElem? (i := 77) rfl) rfl
theorem w_im_3 : Cond.instanceMethod (xY 3) ∈ xgw := xin (List.mem_of_getElem? (i := 76) (by decide +kernel)) rfl
set_option maxRecDepth 20000 in
theorem w_co_4 : Cond.code (xY 4) (xB 4) (xnL 4) (xRt 4) ∈ xgw := xin (List.mem_of_getElem? (i := 83) rfl) rfl
theorem w_im_4 : Cond.instanceMethod (xY 4) ∈ xgw := xin (List.mem_of_getElem? (i := 82) (by decide +kernel)) rfl
set_option maxRecDepth 20000 in
theorem w_co_5 : Cond.code (xY 5) (xB 5) (xnL 5) (xRt 5) ∈ xgw := xin (List.mem_of_getElem? (i := 101) rfl) rfl
theorem w_im_5 : Cond.instanceMethod (xY 5) ∈ xgw := xin (List.mem_of_getElem? (i := 100) (by decide +kernel)) rfl
set_option maxRecDepth 20000 in
theorem w_co_6 : Cond.code (xY 6) (xB 6) (xnL 6) (xRt 6) ∈ xgw := xin (List.mem_of_getElem? (i := 151) rfl) rfl
theorem w_im_6 : Cond.instanceMethod (xY 6) ∈ xgw := xin (List.mem_of_getElem? (i := 150) (by decide +kernel)) rfl
set_option maxRecDepth 20000 in
theorem w_co_7 : Cond.code (xY 7) (xB 7) (xnL 7) (xRt 7) ∈ xgw := xin (List.mem_of_getElem? (i := 228) rfl) rfl
theorem w_im_7 : Cond.instanceMethod (xY 7) ∈ xgw := xin (List.mem_of_getElem? (i := 226) (by decide +kernel)) rfl
theorem w_se_7 : Cond.selects (xCN 0) (xY 7) (xY 7) ∈ xgw := xin (List.mem_of_getElem? (i := 227) (by decide +kernel)) rfl
set_option maxRecDepth 20000 in
theorem w_co_8 : Cond.code (xY 8) (xB 8) (xnL 8) (xRt 8) ∈ xgw := xin (List.mem_of_getElem? (i := 232) rfl) rfl
theorem w_im_8 : Cond.instanceMethod (xY 8) ∈ xgw := xin (List.mem_of_getElem? (i := 230) (by decide +kernel)) rfl
theorem w_se_8 : Cond.selects (xCN 5) (xY 8) (xY 8) ∈ xgw := xin (List.mem_of_getElem? (i := 231) (by decide +kernel)) rfl
set_option maxRecDepth 20000 in
theorem w_co_9 : Cond.code (xY 9) (xB 9) (xnL 9) (xRt 9) ∈ xgw := xin (List.mem_of_getElem? (i := 235) rfl) rfl
theorem w_st_9 : Cond.static (xY 9) ∈ xgw := xin (List.mem_of_getElem? (i := 234) (by decide +kernel)) rfl
set_option maxRecDepth 20000 in
theorem w_co_10 : Cond.code (xY 10) (xB 10) (xnL 10) (xRt 10) ∈ xgw := xin (List.mem_of_getElem? (i := 239) rfl) rfl
theorem w_im_10 : Cond.instanceMethod (xY 10) ∈ xgw := xin (List.mem_of_getElem? (i := 237) (by decide +kernel)) rfl
theorem w_se_10 : Cond.selects (xCN 0) (xY 10) (xY 10) ∈ xgw := xin (List.mem_of_getElem? (i := 238) (by decide +kernel)) rfl
set_option maxRecDepth 20000 in
theorem w_co_11 : Cond.code (xY 11) (xB 11) (xnL 11) (xRt 11) ∈ xgw := xin (List.mem_of_getElem? (i := 243) rfl) rfl
theorem w_im_11 : Cond.instanceMethod (xY 11) ∈ xgw := xin (List.mem_of_getElem? (i := 241) (by decide +kernel)) rfl
theorem w_se_11 : Cond.selects (xCN 0) (xY 11) (xY 11) ∈ xgw := xin (List.mem_of_getElem? (i := 242) (by decide +kernel)) rfl
set_option maxRecDepth 20000 in
theorem w_co_12 : Cond.code (xY 12) (xB 12) (xnL 12) (xRt 12) ∈ xgw := xin (List.mem_of_getElem? (i := 247) rfl) rfl
theorem w_im_12 : Cond.instanceMethod (xY 12) ∈ xgw := xin (List.mem_of_getElem? (i := 245) (by decide +kernel)) rfl
theorem w_se_12 : Cond.selects (xCN 0) (xY 12) (xY 12) ∈ xgw := xin (List.mem_of_getElem? (i := 246) (by decide +kernel)) rfl
set_option maxRecDepth 20000 in
theorem w_co_13 : Cond.code (xY 13) (xB 13) (xnL 13) (xRt 13) ∈ xgw := xin (List.mem_of_getElem? (i := 251) rfl) rfl
theorem w_im_13 : Cond.instanceMethod (xY 13) ∈ xgw := xin (List.mem_of_getElem? (i := 249) (by decide +kernel)) rfl
theorem w_se_13 : Cond.selects (xCN 1) (xY 13) (xY 13) ∈ xgw := xin (List.mem_of_getElem? (i := 250) (by decide +kernel)) rfl
set_option maxRecDepth 20000 in
theorem w_co_14 : Cond.code (xY 14) (xB 14) (xnL 14) (xRt 14) ∈ xgw := xin (List.mem_of_getElem? (i := 255) rfl) rfl
theorem w_im_14 : Cond.instanceMethod (xY 14) ∈ xgw := xin (List.mem_of_getElem? (i := 253) (by decide +kernel)) rfl
theorem w_se_14 : Cond.selects (xCN 2) (xY 14) (xY 14) ∈ xgw := xin (List.mem_of_getElem? (i := 254) (by decide +kernel)) rfl
set_option maxRecDepth 20000 in
theorem w_co_15 : Cond.code (xY 15) (xB 15) (xnL 15) (xRt 15) ∈ xgw := xin (List.mem_of_getElem? (i := 258) rfl) rfl
theorem w_st_15 : Cond.static (xY 15) ∈ xgw := xin (List.mem_of_getElem? (i := 257) (by decide +kernel)) rfl
set_option maxRecDepth 20000 in
theorem w_co_16 : Cond.code (xY 16) (xB 16) (xnL 16) (xRt 16) ∈ xgw := xin (List.mem_of_getElem? (i := 262) rfl) rfl
theorem w_im_16 : Cond.instanceMethod (xY 16) ∈ xgw := xin (List.mem_of_getElem? (i := 260) (by decide +kernel)) rfl
theorem w_se_16 : Cond.selects (xCN 3) (xY 16) (xY 16) ∈ xgw := xin (List.mem_of_getElem? (i := 261) (by decide +kernel)) rfl
set_option maxRecDepth 20000 in
theorem w_co_17 : Cond.code (xY 17) (xB 17) (xnL 17) (xRt 17) ∈ xgw := xin (List.mem_of_getElem? (i := 266) rfl) rfl
theorem w_im_17 : Cond.instanceMethod (xY 17) ∈ xgw := xin (List.mem_of_getElem? (i := 264) (by decide +kernel)) rfl
theorem w_se_17 : Cond.selects (xCN 1) (xY 17) (xY 17) ∈ xgw := xin (List.mem_of_getElem? (i := 265) (by decide +kernel)) rfl
set_option maxRecDepth 20000 in
theorem w_co_18 : Cond.code (xY 18) (xB 18) (xnL 18) (xRt 18) ∈ xgw := xin (List.mem_of_getElem? (i := 270) rfl) rfl
theorem w_im_18 : Cond.instanceMethod (xY 18) ∈ xgw := xin (List.mem_of_getElem? (i := 268) (by decide +kernel)) rfl
theorem w_se_18 : Cond.selects (xCN 4) (xY 18) (xY 18) ∈ xgw := xin (List.mem_of_getElem? (i := 269) (by decide +kernel)) rfl
set_option maxRecDepth 20000 in
theorem w_co_19 : Cond.code (xY 19) (xB 19) (xnL 19) (xRt 19) ∈ xgw := xin (List.mem_of_getElem? (i := 275) rfl) rfl
theorem w_im_19 : Cond.instanceMethod (xY 19) ∈ xgw := xin (List.mem_of_getElem? (i := 273) (by decide +kernel)) rfl
theorem w_se_19 : Cond.selects (xCN 1) (xY 19) (xY 19) ∈ xgw := xin (List.mem_of_getElem? (i := 274) (by decide +kernel)) rfl
set_option maxRecDepth 20000 in
theorem w_co_20 : Cond.code (xY 20) (xB 20) (xnL 20) (xRt 20) ∈ xgw := xin (List.mem_of_getElem? (i := 279) rfl) rfl
theorem w_im_20 : Cond.instanceMethod (xY 20) ∈ xgw := xin (List.mem_of_getElem? (i := 277) (by decide +kernel)) rfl
theorem w_se_20 : Cond.selects (xCN 5) (xY 20) (xY 20) ∈ xgw := xin (List.mem_of_getElem? (i := 278) (by decide +kernel)) rfl
set_option maxRecDepth 20000 in
theorem w_co_21 : Cond.code (xY 21) (xB 21) (xnL 21) (xRt 21) ∈ xgw := xin (List.mem_of_getElem? (i := 282) rfl) rfl
theorem w_st_21 : Cond.static (xY 21) ∈ xgw := xin (List.mem_of_getElem? (i := 281) (by decide +kernel)) rfl
set_option maxRecDepth 20000 in
theorem w_co_22 : Cond.code (xY 22) (xB 22) (xnL 22) (xRt 22) ∈ xgw := xin (List.mem_of_getElem? (i := 285) rfl) rfl
theorem w_st_22 : Cond.static (xY 22) ∈ xgw := xin (List.mem_of_getElem? (i := 284) (by decide +kernel)) rfl
set_option maxRecDepth 20000 in
theorem w_co_23 : Cond.code (xY 23) (xB 23) (xnL 23) (xRt 23) ∈ xgw := xin (List.mem_of_getElem? (i := 288) rfl) rfl
theorem w_st_23 : Cond.static (xY 23) ∈ xgw := xin (List.mem_of_getElem? (i := 287) (by decide +kernel)) rfl
set_option maxRecDepth 20000 in
theorem w_co_24 : Cond.code (xY 24) (xB 24) (xnL 24) (xRt 24) ∈ xgw := xin (List.mem_of_getElem? (i := 293) rfl) rfl
theorem w_im_24 : Cond.instanceMethod (xY 24) ∈ xgw := xin (List.mem_of_getElem? (i := 292) (by decide +kernel)) rfl
theorem w_se_24 : Cond.selects (xCN 1) (xY 24) (xY 24) ∈ xgw := xin (List.mem_of_getElem? (i := 0) (by decide +kernel)) rfl
set_option maxRecDepth 20000 in
theorem w_co_25 : Cond.code (xY 25) (xB 25) (xnL 25) (xRt 25) ∈ xgw := xin (List.mem_of_getElem? (i := 296) rfl) rfl
theorem w_st_25 : Cond.static (xY 25) ∈ xgw := xin (List.mem_of_getElem? (i := 295) (by decide +kernel)) rfl
set_option maxRecDepth 20000 in
theorem w_co_26 : Cond.code (xY 26) (xB 26) (xnL 26) (xRt 26) ∈ xgw := xin (List.mem_of_getElem? (i := 299) rfl) rfl
theorem w_st_26 : Cond.static (xY 26) ∈ xgw := xin (List.mem_of_getElem? (i := 298) (by decide +kernel)) rfl
set_option maxRecDepth 20000 in
theorem w_co_27 : Cond.code (xY 27) (xB 27) (xnL 27) (xRt 27) ∈ xgw := xin (List.mem_of_getElem? (i := 302) rfl) rfl
theorem w_st_27 : Cond.static (xY 27) ∈ xgw := xin (List.mem_of_getElem? (i := 301) (by decide +kernel)) rfl
set_option maxRecDepth 20000 in
theorem w_co_28 : Cond.code (xY 28) (xB 28) (xnL 28) (xRt 28) ∈ xgw := xin (List.mem_of_getElem? (i := 306) rfl) rfl
theorem w_im_28 : Cond.instanceMethod (xY 28) ∈ xgw := xin (List.mem_of_getElem? (i := 305) (by decide +kernel)) rfl
theorem w_se_28 : Cond.selects (xCN 1) (xY 28) (xY 28) ∈ xgw := xin (List.mem_of_getElem? (i := 1) (by decide +kernel)) rfl
set_option maxRecDepth 20000 in
theorem w_co_29 : Cond.code (xY 29) (xB 29) (xnL 29) (xRt 29) ∈ xgw := xin (List.mem_of_getElem? (i := 310) rfl) rfl
theorem w_im_29 : Cond.instanceMethod (xY 29) ∈ xgw := xin (List.mem_of_getElem? (i := 308) (by decide +kernel)) rfl
theorem w_se_29 : Cond.selects (xCN 5) (xY 29) (xY 29) ∈ xgw := xin (List.mem_of_getElem? (i := 309) (by decide +kernel)) rfl
set_option maxRecDepth 20000 in
theorem w_co_30 : Cond.code (xY 30) (xB 30) (xnL 30) (xRt 30) ∈ xgw := xin (List.mem_of_getElem? (i := 314) rfl) rfl
theorem w_im_30 : Cond.instanceMethod (xY 30) ∈ xgw := xin (List.mem_of_getElem? (i := 312) (by decide +kernel)) rfl
theorem w_se_30 : Cond.selects (xCN 5) (xY 30) (xY 30) ∈ xgw := xin (List.mem_of_getElem? (i := 313) (by decide +kernel)) rfl
set_option maxRecDepth 20000 in
theorem w_co_31 : Cond.code (xY 31) (xB 31) (xnL 31) (xRt 31) ∈ xgw := xin (List.mem_of_getElem? (i := 319) rfl) rfl
theorem w_im_31 : Cond.instanceMethod (xY 31) ∈ xgw := xin (List.mem_of_getElem? (i := 317) (by decide +kernel)) rfl
theorem w_se_31 : Cond.selects (xCN 5) (xY 31) (xY 31) ∈ xgw := xin (List.mem_of_getElem? (i := 318) (by decide +kernel)) rfl
set_option maxRecDepth 20000 in
theorem w_co_32 : Cond.code (xY 32) (xB 32) (xnL 32) (xRt 32) ∈ xgw := xin (List.mem_of_getElem? (i := 323) rfl) rfl
theorem w_im_32 : Cond.instanceMethod (xY 32) ∈ xgw := xin (List.mem_of_getElem? (i := 322) (by decide +kernel)) rfl
theorem w_se_32 : Cond.selects (xCN 1) (xY 32) (xY 32) ∈ xgw := xin (List.mem_of_getElem? (i := 2) (by decide +kernel)) rfl
set_option maxRecDepth 20000 in
theorem w_co_33 : Cond.code (xY 33) (xB 33) (xnL 33) (xRt 33) ∈ xgw := xin (List.mem_of_getElem? (i := 327) rfl) rfl
theorem w_im_33 : Cond.instanceMethod (xY 33) ∈ xgw := xin (List.mem_of_getElem? (i := 326) (by decide +kernel)) rfl
theorem w_se_33 : Cond.selects (xCN 1) (xY 33) (xY 33) ∈ xgw := xin (List.mem_of_getElem? (i := 3) (by decide +kernel)) rfl
set_option maxRecDepth 20000 in
theorem w_co_34 : Cond.code (xY 34) (xB 34) (xnL 34) (xRt 34) ∈ xgw := xin (List.mem_of_getElem? (i := 330) rfl) rfl
theorem w_st_34 : Cond.static (xY 34) ∈ xgw := xin (List.mem_of_getElem? (i := 329) (by decide +kernel)) rfl
set_option maxRecDepth 20000 in
theorem w_co_35 : Cond.code (xY 35) (xB 35) (xnL 35) (xRt 35) ∈ xgw := xin (List.mem_of_getElem? (i := 334) rfl) rfl
theorem w_im_35 : Cond.instanceMethod (xY 35) ∈ xgw := xin (List.mem_of_getElem? (i := 333) (by decide +kernel)) rfl
theorem w_se_35 : Cond.selects (xCN 1) (xY 35) (xY 35) ∈ xgw := xin (List.mem_of_getElem? (i := 4) (by decide +kernel)) rfl
set_option maxRecDepth 20000 in
theorem w_co_36 : Cond.code (xY 36) (xB 36) (xnL 36) (xRt 36) ∈ xgw := xin (List.mem_of_getElem? (i := 337) rfl) rfl
theorem w_st_36 : Cond.static (xY 36) ∈ xgw := xin (List.mem_of_getElem? (i := 336) (by decide +kernel)) rfl
set_option maxRecDepth 20000 in
theorem w_co_37 : Cond.code (xY 37) (xB 37) (xnL 37) (xRt 37) ∈ xgw := xin (List.mem_of_getElem? (i := 341) rfl) rfl
theorem w_im_37 : Cond.instanceMethod (xY 37) ∈ xgw := xin (List.mem_of_getElem? (i := 340) (by decide +kernel)) rfl
theorem w_se_37 : Cond.selects (xCN 1) (xY 37) (xY 37) ∈ xgw := xin (List.mem_of_getElem? (i := 5) (by decide +kernel)) rfl
set_option maxRecDepth 20000 in
theorem w_co_38 : Cond.code (xY 38) (xB 38) (xnL 38) (xRt 38) ∈ xgw := xin (List.mem_of_getElem? (i := 345) rfl) rfl
theorem w_im_38 : Cond.instanceMethod (xY 38) ∈ xgw := xin (List.mem_of_getElem? (i := 344) (by decide +kernel)) rfl
theorem w_se_38 : Cond.selects (xCN 1) (xY 38) (xY 38) ∈ xgw := xin (List.mem_of_getElem? (i := 6) (by decide +kernel)) rfl
set_option maxRecDepth 20000 in
theorem w_co_39 : Cond.code (xY 39) (xB 39) (xnL 39) (xRt 39) ∈ xgw := xin (List.mem_of_getElem? (i := 349) rfl) rfl
theorem w_im_39 : Cond.instanceMethod (xY 39) ∈ xgw := xin (List.mem_of_getElem? (i := 347) (by decide +kernel)) rfl
theorem w_se_39 : Cond.selects (xCN 4) (xY 39) (xY 39) ∈ xgw := xin (List.mem_of_getElem? (i := 348) (by decide +kernel)) rfl
set_option maxRecDepth 20000 in
theorem w_co_40 : Cond.code (xY 40) (xB 40) (xnL 40) (xRt 40) ∈ xgw := xin (List.mem_of_getElem? (i := 353) rfl) rfl
theorem w_im_40 : Cond.instanceMethod (xY 40) ∈ xgw := xin (List.mem_of_getElem? (i := 351) (by decide +kernel)) rfl
theorem w_se_40 : Cond.selects (xCN 4) (xY 40) (xY 40) ∈ xgw := xin (List.mem_of_getElem? (i := 352) (by decide +kernel)) rfl
set_option maxRecDepth 20000 in
theorem w_co_41 : Cond.code (xY 41) (xB 41) (xnL 41) (xRt 41) ∈ xgw := xin (List.mem_of_getElem? (i := 357) rfl) rfl
theorem w_st_41 : Cond.static (xY 41) ∈ xgw := xin (List.mem_of_getElem? (i := 356) (by decide +kernel)) rfl
set_option maxRecDepth 20000 in
theorem w_co_42 : Cond.code (xY 42) (xB 42) (xnL 42) (xRt 42) ∈ xgw := xin (List.mem_of_getElem? (i := 361) rfl) rfl
theorem w_im_42 : Cond.instanceMethod (xY 42) ∈ xgw := xin (List.mem_of_getElem? (i := 360) (by decide +kernel)) rfl
theorem w_se_42 : Cond.selects (xCN 1) (xY 42) (xY 42) ∈ xgw := xin (List.mem_of_getElem? (i := 7) (by decide +kernel)) rfl
set_option maxRecDepth 20000 in
theorem w_co_43 : Cond.code (xY 43) (xB 43) (xnL 43) (xRt 43) ∈ xgw := xin (List.mem_of_getElem? (i := 364) rfl) rfl
theorem w_st_43 : Cond.static (xY 43) ∈ xgw := xin (List.mem_of_getElem? (i := 363) (by decide +kernel)) rfl
set_option maxRecDepth 20000 in
theorem w_co_44 : Cond.code (xY 44) (xB 44) (xnL 44) (xRt 44) ∈ xgw := xin (List.mem_of_getElem? (i := 368) rfl) rfl
theorem w_im_44 : Cond.instanceMethod (xY 44) ∈ xgw := xin (List.mem_of_getElem? (i := 367) (by decide +kernel)) rfl
theorem w_se_44 : Cond.selects (xCN 1) (xY 44) (xY 44) ∈ xgw := xin (List.mem_of_getElem? (i := 8) (by decide +kernel)) rfl
set_option maxRecDepth 20000 in
theorem w_co_45 : Cond.code (xY 45) (xB 45) (xnL 45) (xRt 45) ∈ xgw := xin (List.mem_of_getElem? (i := 372) rfl) rfl
theorem w_im_45 : Cond.instanceMethod (xY 45) ∈ xgw := xin (List.mem_of_getElem? (i := 370) (by decide +kernel)) rfl
theorem w_se_45 : Cond.selects (xCN 4) (xY 45) (xY 45) ∈ xgw := xin (List.mem_of_getElem? (i := 371) (by decide +kernel)) rfl
set_option maxRecDepth 20000 in
theorem w_co_46 : Cond.code (xY 46) (xB 46) (xnL 46) (xRt 46) ∈ xgw := xin (List.mem_of_getElem? (i := 378) rfl) rfl
theorem w_st_46 : Cond.static (xY 46) ∈ xgw := xin (List.mem_of_getElem? (i := 377) (by decide +kernel)) rfl
set_option maxRecDepth 20000 in
theorem w_co_47 : Cond.code (xY 47) (xB 47) (xnL 47) (xRt 47) ∈ xgw := xin (List.mem_of_getElem? (i := 383) rfl) rfl
theorem w_im_47 : Cond.instanceMethod (xY 47) ∈ xgw := xin (List.mem_of_getElem? (i := 382) (by decide +kernel)) rfl
theorem w_se_47 : Cond.selects (xCN 1) (xY 47) (xY 47) ∈ xgw := xin (List.mem_of_getElem? (i := 9) (by decide +kernel)) rfl
set_option maxRecDepth 20000 in
theorem w_co_48 : Cond.code (xY 48) (xB 48) (xnL 48) (xRt 48) ∈ xgw := xin (List.mem_of_getElem? (i := 387) rfl) rfl
theorem w_im_48 : Cond.instanceMethod (xY 48) ∈ xgw := xin (List.mem_of_getElem? (i := 385) (by decide +kernel)) rfl
theorem w_se_48 : Cond.selects (xCN 3) (xY 48) (xY 48) ∈ xgw := xin (List.mem_of_getElem? (i := 386) (by decide +kernel)) rfl
set_option maxRecDepth 20000 in
theorem w_co_49 : Cond.code (xY 49) (xB 49) (xnL 49) (xRt 49) ∈ xgw := xin (List.mem_of_getElem? (i := 391) rfl) rfl
theorem w_im_49 : Cond.instanceMethod (xY 49) ∈ xgw := xin (List.mem_of_getElem? (i := 389) (by decide +kernel)) rfl
theorem w_se_49 : Cond.selects (xCN 3) (xY 49) (xY 49) ∈ xgw := xin (List.mem_of_getElem? (i := 390) (by decide +kernel)) rfl
set_option maxRecDepth 20000 in
theorem w_co_50 : Cond.code (xY 50) (xB 50) (xnL 50) (xRt 50) ∈ xgw := xin (List.mem_of_getElem? (i := 395) rfl) rfl
theorem w_im_50 : Cond.instanceMethod (xY 50) ∈ xgw := xin (List.mem_of_getElem? (i := 394) (by decide +kernel)) rfl
theorem w_se_50 : Cond.selects (xCN 3) (xY 50) (xY 50) ∈ xgw := xin (List.mem_of_getElem? (i := 10) (by decide +kernel)) rfl
set_option maxRecDepth 20000 in
theorem w_co_51 : Cond.code (xY 51) (xB 51) (xnL 51) (xRt 51) ∈ xgw := xin (List.mem_of_getElem? (i := 399) rfl) rfl
theorem w_im_51 : Cond.instanceMethod (xY 51) ∈ xgw := xin (List.mem_of_getElem? (i := 397) (by decide +kernel)) rfl
theorem w_se_51 : Cond.selects (xCN 3) (xY 51) (xY 51) ∈ xgw := xin (List.mem_of_getElem? (i := 398) (by decide +kernel)) rfl
set_option maxRecDepth 20000 in
theorem w_co_52 : Cond.code (xY 52) (xB 52) (xnL 52) (xRt 52) ∈ xgw := xin (List.mem_of_getElem? (i := 403) rfl) rfl
theorem w_im_52 : Cond.instanceMethod (xY 52) ∈ xgw := xin (List.mem_of_getElem? (i := 402) (by decide +kernel)) rfl
theorem w_se_52 : Cond.selects (xCN 1) (xY 52) (xY 52) ∈ xgw := xin (List.mem_of_getElem? (i := 11) (by decide +kernel)) rfl
set_option maxRecDepth 20000 in
theorem w_co_53 : Cond.code (xY 53) (xB 53) (xnL 53) (xRt 53) ∈ xgw := xin (List.mem_of_getElem? (i := 406) rfl) rfl
theorem w_st_53 : Cond.static (xY 53) ∈ xgw := xin (List.mem_of_getElem? (i := 405) (by decide +kernel)) rfl
set_option maxRecDepth 20000 in
theorem w_co_54 : Cond.code (xY 54) (xB 54) (xnL 54) (xRt 54) ∈ xgw := xin (List.mem_of_getElem? (i := 409) rfl) rfl
theorem w_st_54 : Cond.static (xY 54) ∈ xgw := xin (List.mem_of_getElem? (i := 408) (by decide +kernel)) rfl
set_option maxRecDepth 20000 in
theorem w_co_55 : Cond.code (xY 55) (xB 55) (xnL 55) (xRt 55) ∈ xgw := xin (List.mem_of_getElem? (i := 413) rfl) rfl
theorem w_im_55 : Cond.instanceMethod (xY 55) ∈ xgw := xin (List.mem_of_getElem? (i := 412) (by decide +kernel)) rfl
theorem w_se_55 : Cond.selects (xCN 1) (xY 55) (xY 55) ∈ xgw := xin (List.mem_of_getElem? (i := 12) (by decide +kernel)) rfl
set_option maxRecDepth 20000 in
theorem w_co_56 : Cond.code (xY 56) (xB 56) (xnL 56) (xRt 56) ∈ xgw := xin (List.mem_of_getElem? (i := 417) rfl) rfl
theorem w_im_56 : Cond.instanceMethod (xY 56) ∈ xgw := xin (List.mem_of_getElem? (i := 416) (by decide +kernel)) rfl
theorem w_se_56 : Cond.selects (xCN 1) (xY 56) (xY 56) ∈ xgw := xin (List.mem_of_getElem? (i := 13) (by decide +kernel)) rfl
set_option maxRecDepth 20000 in
theorem w_co_57 : Cond.code (xY 57) (xB 57) (xnL 57) (xRt 57) ∈ xgw := xin (List.mem_of_getElem? (i := 422) rfl) rfl
theorem w_im_57 : Cond.instanceMethod (xY 57) ∈ xgw := xin (List.mem_of_getElem? (i := 420) (by decide +kernel)) rfl
theorem w_se_57 : Cond.selects (xCN 3) (xY 57) (xY 57) ∈ xgw := xin (List.mem_of_getElem? (i := 421) (by decide +kernel)) rfl
set_option maxRecDepth 20000 in
theorem w_co_58 : Cond.code (xY 58) (xB 58) (xnL 58) (xRt 58) ∈ xgw := xin (List.mem_of_getElem? (i := 427) rfl) rfl
theorem w_im_58 : Cond.instanceMethod (xY 58) ∈ xgw := xin (List.mem_of_getElem? (i := 426) (by decide +kernel)) rfl
theorem w_se_58 : Cond.selects (xCN 3) (xY 58) (xY 58) ∈ xgw := xin (List.mem_of_getElem? (i := 14) (by decide +kernel)) rfl
set_option maxRecDepth 20000 in
theorem w_co_59 : Cond.code (xY 59) (xB 59) (xnL 59) (xRt 59) ∈ xgw := xin (List.mem_of_getElem? (i := 431) rfl) rfl
theorem w_im_59 : Cond.instanceMethod (xY 59) ∈ xgw := xin (List.mem_of_getElem? (i := 429) (by decide +kernel)) rfl
theorem w_se_59 : Cond.selects (xCN 2) (xY 59) (xY 59) ∈ xgw := xin (List.mem_of_getElem? (i := 430) (by decide +kernel)) rfl
set_option maxRecDepth 20000 in
theorem w_co_60 : Cond.code (xY 60) (xB 60) (xnL 60) (xRt 60) ∈ xgw := xin (List.mem_of_getElem? (i := 435) rfl) rfl
theorem w_im_60 : Cond.instanceMethod (xY 60) ∈ xgw := xin (List.mem_of_getElem? (i := 434) (by decide +kernel)) rfl
theorem w_se_60 : Cond.selects (xCN 1) (xY 60) (xY 60) ∈ xgw := xin (List.mem_of_getElem? (i := 15) (by decide +kernel)) rfl
set_option maxRecDepth 20000 in
theorem w_co_61 : Cond.code (xY 61) (xB 61) (xnL 61) (xRt 61) ∈ xgw := xin (List.mem_of_getElem? (i := 439) rfl) rfl
theorem w_im_61 : Cond.instanceMethod (xY 61) ∈ xgw := xin (List.mem_of_getElem? (i := 437) (by decide +kernel)) rfl
theorem w_se_61 : Cond.selects (xCN 0) (xY 61) (xY 61) ∈ xgw := xin (List.mem_of_getElem? (i := 438) (by decide +kernel)) rfl
set_option maxRecDepth 20000 in
theorem w_co_62 : Cond.code (xY 62) (xB 62) (xnL 62) (xRt 62) ∈ xgw := xin (List.mem_of_getElem? (i := 443) rfl) rfl
theorem w_im_62 : Cond.instanceMethod (xY 62) ∈ xgw := xin (List.mem_of_getElem? (i := 441) (by decide +kernel)) rfl
theorem w_se_62 : Cond.selects (xCN 0) (xY 62) (xY 62) ∈ xgw := xin (List.mem_of_getElem? (i := 442) (by decide +kernel)) rfl
set_option maxRecDepth 20000 in
theorem w_co_63 : Cond.code (xY 63) (xB 63) (xnL 63) (xRt 63) ∈ xgw := xin (List.mem_of_getElem? (i := 447) rfl) rfl
theorem w_im_63 : Cond.instanceMethod (xY 63) ∈ xgw := xin (List.mem_of_getElem? (i := 445) (by decide +kernel)) rfl
theorem w_se_63 : Cond.selects (xCN 0) (xY 63) (xY 63) ∈ xgw := xin (List.mem_of_getElem? (i := 446) (by decide +kernel)) rfl
set_option maxRecDepth 20000 in
theorem w_co_64 : Cond.code (xY 64) (xB 64) (xnL 64) (xRt 64) ∈ xgw := xin (List.mem_of_getElem? (i := 451) rfl) rfl
theorem w_im_64 : Cond.instanceMethod (xY 64) ∈ xgw := xin (List.mem_of_getElem? (i := 449) (by decide +kernel)) rfl
theorem w_se_64 : Cond.selects (xCN 2) (xY 64) (xY 64) ∈ xgw := xin (List.mem_of_getElem? (i := 450) (by decide +kernel)) rfl
set_option maxRecDepth 20000 in
theorem w_co_65 : Cond.code (xY 65) (xB 65) (xnL 65) (xRt 65) ∈ xgw := xin (List.mem_of_getElem? (i := 455) rfl) rfl
theorem w_im_65 : Cond.instanceMethod (xY 65) ∈ xgw := xin (List.mem_of_getElem? (i := 453) (by decide +kernel)) rfl
theorem w_se_65 : Cond.selects (xCN 0) (xY 65) (xY 65) ∈ xgw := xin (List.mem_of_getElem? (i := 454) (by decide +kernel)) rfl
set_option maxRecDepth 20000 in
theorem w_co_66 : Cond.code (xY 66) (xB 66) (xnL 66) (xRt 66) ∈ xgw := xin (List.mem_of_getElem? (i := 459) rfl) rfl
theorem w_im_66 : Cond.instanceMethod (xY 66) ∈ xgw := xin (List.mem_of_getElem? (i := 457) (by decide +kernel)) rfl
theorem w_se_66 : Cond.selects (xCN 2) (xY 66) (xY 66) ∈ xgw := xin (List.mem_of_getElem? (i := 458) (by decide +kernel)) rfl
set_option maxRecDepth 20000 in
theorem w_co_67 : Cond.code (xY 67) (xB 67) (xnL 67) (xRt 67) ∈ xgw := xin (List.mem_of_getElem? (i := 463) rfl) rfl
theorem w_im_67 : Cond.instanceMethod (xY 67) ∈ xgw := xin (List.mem_of_getElem? (i := 461) (by decide +kernel)) rfl
theorem w_se_67 : Cond.selects (xCN 0) (xY 67) (xY 67) ∈ xgw := xin (List.mem_of_getElem? (i := 462) (by decide +kernel)) rfl
set_option maxRecDepth 20000 in
theorem w_co_68 : Cond.code (xY 68) (xB 68) (xnL 68) (xRt 68) ∈ xgw := xin (List.mem_of_getElem? (i := 467) rfl) rfl
theorem w_im_68 : Cond.instanceMethod (xY 68) ∈ xgw := xin (List.mem_of_getElem? (i := 465) (by decide +kernel)) rfl
theorem w_se_68 : Cond.selects (xCN 0) (xY 68) (xY 68) ∈ xgw := xin (List.mem_of_getElem? (i := 466) (by decide +kernel)) rfl
set_option maxRecDepth 20000 in
theorem w_co_69 : Cond.code (xY 69) (xB 69) (xnL 69) (xRt 69) ∈ xgw := xin (List.mem_of_getElem? (i := 471) rfl) rfl
theorem w_im_69 : Cond.instanceMethod (xY 69) ∈ xgw := xin (List.mem_of_getElem? (i := 469) (by decide +kernel)) rfl
theorem w_se_69 : Cond.selects (xCN 0) (xY 69) (xY 69) ∈ xgw := xin (List.mem_of_getElem? (i := 470) (by decide +kernel)) rfl
set_option maxRecDepth 20000 in
theorem w_co_70 : Cond.code (xY 70) (xB 70) (xnL 70) (xRt 70) ∈ xgw := xin (List.mem_of_getElem? (i := 475) rfl) rfl
theorem w_im_70 : Cond.instanceMethod (xY 70) ∈ xgw := xin (List.mem_of_getElem? (i := 473) (by decide +kernel)) rfl
theorem w_se_70 : Cond.selects (xCN 0) (xY 70) (xY 70) ∈ xgw := xin (List.mem_of_getElem? (i := 474) (by decide +kernel)) rfl
set_option maxRecDepth 20000 in
theorem w_co_71 : Cond.code (xY 71) (xB 71) (xnL 71) (xRt 71) ∈ xgw := xin (List.mem_of_getElem? (i := 480) rfl) rfl
theorem w_im_71 : Cond.instanceMethod (xY 71) ∈ xgw := xin (List.mem_of_getElem? (i := 478) (by decide +kernel)) rfl
theorem w_se_71 : Cond.selects (xCN 4) (xY 71) (xY 71) ∈ xgw := xin (List.mem_of_getElem? (i := 479) (by decide +kernel)) rfl
set_option maxRecDepth 20000 in
theorem w_co_72 : Cond.code (xY 72) (xB 72) (xnL 72) (xRt 72) ∈ xgw := xin (List.mem_of_getElem? (i := 483) rfl) rfl
theorem w_st_72 : Cond.static (xY 72) ∈ xgw := xin (List.mem_of_getElem? (i := 482) (by decide +kernel)) rfl
set_option maxRecDepth 20000 in
theorem w_co_73 : Cond.code (xY 73) (xB 73) (xnL 73) (xRt 73) ∈ xgw := xin (List.mem_of_getElem? (i := 491) rfl) rfl
theorem w_im_73 : Cond.instanceMethod (xY 73) ∈ xgw := xin (List.mem_of_getElem? (i := 490) (by decide +kernel)) rfl
set_option maxRecDepth 20000 in
theorem w_co_74 : Cond.code (xY 74) (xB 74) (xnL 74) (xRt 74) ∈ xgw := xin (List.mem_of_getElem? (i := 601) rfl) rfl
theorem w_im_74 : Cond.instanceMethod (xY 74) ∈ xgw := xin (List.mem_of_getElem? (i := 599) (by decide +kernel)) rfl
theorem w_se_74 : Cond.selects (xCN 6) (xY 74) (xY 74) ∈ xgw := xin (List.mem_of_getElem? (i := 600) (by decide +kernel)) rfl
set_option maxRecDepth 20000 in
theorem w_co_75 : Cond.code (xY 75) (xB 75) (xnL 75) (xRt 75) ∈ xgw := xin (List.mem_of_getElem? (i := 605) rfl) rfl
theorem w_im_75 : Cond.instanceMethod (xY 75) ∈ xgw := xin (List.mem_of_getElem? (i := 603) (by decide +kernel)) rfl
theorem w_se_75 : Cond.selects (xCN 6) (xY 75) (xY 75) ∈ xgw := xin (List.mem_of_getElem? (i := 604) (by decide +kernel)) rfl
set_option maxRecDepth 20000 in
theorem w_co_76 : Cond.code (xY 76) (xB 76) (xnL 76) (xRt 76) ∈ xgw := xin (List.mem_of_getElem? (i := 609) rfl) rfl
theorem w_im_76 : Cond.instanceMethod (xY 76) ∈ xgw := xin (List.mem_of_getElem? (i := 607) (by decide +kernel)) rfl
theorem w_se_76 : Cond.selects (xCN 6) (xY 76) (xY 76) ∈ xgw := xin (List.mem_of_getElem? (i := 608) (by decide +kernel)) rfl
set_option maxRecDepth 20000 in
theorem w_co_77 : Cond.code (xY 77) (xB 77) (xnL 77) (xRt 77) ∈ xgw := xin (List.mem_of_getElem? (i := 613) rfl) rfl
theorem w_im_77 : Cond.instanceMethod (xY 77) ∈ xgw := xin (List.mem_of_getElem? (i := 611) (by decide +kernel)) rfl
theorem w_se_77 : Cond.selects (xCN 6) (xY 77) (xY 77) ∈ xgw := xin (List.mem_of_getElem? (i := 612) (by decide +kernel)) rfl
set_option maxRecDepth 20000 in
theorem w_co_78 : Cond.code (xY 78) (xB 78) (xnL 78) (xRt 78) ∈ xgw := xin (List.mem_of_getElem? (i := 617) rfl) rfl
theorem w_im_78 : Cond.instanceMethod (xY 78) ∈ xgw := xin (List.mem_of_getElem? (i := 616) (by decide +kernel)) rfl
theorem w_se_78 : Cond.selects (xCN 6) (xY 78) (xY 78) ∈ xgw := xin (List.mem_of_getElem? (i := 16) (by decide +kernel)) rfl
set_option maxRecDepth 20000 in
theorem w_co_79 : Cond.code (xY 79) (xB 79) (xnL 79) (xRt 79) ∈ xgw := xin (List.mem_of_getElem? (i := 620) rfl) rfl
theorem w_st_79 : Cond.static (xY 79) ∈ xgw := xin (List.mem_of_getElem? (i := 619) (by decide +kernel)) rfl
set_option maxRecDepth 20000 in
theorem w_co_80 : Cond.code (xY 80) (xB 80) (xnL 80) (xRt 80) ∈ xgw := xin (List.mem_of_getElem? (i := 624) rfl) rfl
theorem w_im_80 : Cond.instanceMethod (xY 80) ∈ xgw := xin (List.mem_of_getElem? (i := 623) (by decide +kernel)) rfl
theorem w_se_80 : Cond.selects (xCN 6) (xY 80) (xY 80) ∈ xgw := xin (List.mem_of_getElem? (i := 17) (by decide +kernel)) rfl
set_option maxRecDepth 20000 in
theorem w_co_81 : Cond.code (xY 81) (xB 81) (xnL 81) (xRt 81) ∈ xgw := xin (List.mem_of_getElem? (i := 627) rfl) rfl
theorem w_st_81 : Cond.static (xY 81) ∈ xgw := xin (List.mem_of_getElem? (i := 626) (by decide +kernel)) rfl
set_option maxRecDepth 20000 in
theorem w_co_82 : Cond.code (xY 82) (xB 82) (xnL 82) (xRt 82) ∈ xgw := xin (List.mem_of_getElem? (i := 631) rfl) rfl
theorem w_im_82 : Cond.instanceMethod (xY 82) ∈ xgw := xin (List.mem_of_getElem? (i := 630) (by decide +kernel)) rfl
theorem w_se_82 : Cond.selects (xCN 6) (xY 82) (xY 82) ∈ xgw := xin (List.mem_of_getElem? (i := 18) (by decide +kernel)) rfl
set_option maxRecDepth 20000 in
theorem w_co_83 : Cond.code (xY 83) (xB 83) (xnL 83) (xRt 83) ∈ xgw := xin (List.mem_of_getElem? (i := 635) rfl) rfl
theorem w_im_83 : Cond.instanceMethod (xY 83) ∈ xgw := xin (List.mem_of_getElem? (i := 634) (by decide +kernel)) rfl
theorem w_se_83 : Cond.selects (xCN 6) (xY 83) (xY 83) ∈ xgw := xin (List.mem_of_getElem? (i := 19) (by decide +kernel)) rfl
set_option maxRecDepth 20000 in
theorem w_co_84 : Cond.code (xY 84) (xB 84) (xnL 84) (xRt 84) ∈ xgw := xin (List.mem_of_getElem? (i := 638) rfl) rfl
theorem w_st_84 : Cond.static (xY 84) ∈ xgw := xin (List.mem_of_getElem? (i := 637) (by decide +kernel)) rfl
set_option maxRecDepth 20000 in
theorem w_co_85 : Cond.code (xY 85) (xB 85) (xnL 85) (xRt 85) ∈ xgw := xin (List.mem_of_getElem? (i := 642) rfl) rfl
theorem w_im_85 : Cond.instanceMethod (xY 85) ∈ xgw := xin (List.mem_of_getElem? (i := 641) (by decide +kernel)) rfl
theorem w_se_85 : Cond.selects (xCN 6) (xY 85) (xY 85) ∈ xgw := xin (List.mem_of_getElem? (i := 20) (by decide +kernel)) rfl
set_option maxRecDepth 20000 in
theorem w_co_86 : Cond.code (xY 86) (xB 86) (xnL 86) (xRt 86) ∈ xgw := xin (List.mem_of_getElem? (i := 646) rfl) rfl
theorem w_im_86 : Cond.instanceMethod (xY 86) ∈ xgw := xin (List.mem_of_getElem? (i := 645) (by decide +kernel)) rfl
theorem w_se_86 : Cond.selects (xCN 6) (xY 86) (xY 86) ∈ xgw := xin (List.mem_of_getElem? (i := 21) (by decide +kernel)) rfl
set_option maxRecDepth 20000 in
theorem w_co_87 : Cond.code (xY 87) (xB 87) (xnL 87) (xRt 87) ∈ xgw := xin (List.mem_of_getElem? (i := 650) rfl) rfl
theorem w_im_87 : Cond.instanceMethod (xY 87) ∈ xgw := xin (List.mem_of_getElem? (i := 649) (by decide +kernel)) rfl
theorem w_se_87 : Cond.selects (xCN 6) (xY 87) (xY 87) ∈ xgw := xin (List.mem_of_getElem? (i := 22) (by decide +kernel)) rfl
set_option maxRecDepth 20000 in
theorem w_co_88 : Cond.code (xY 88) (xB 88) (xnL 88) (xRt 88) ∈ xgw := xin (List.mem_of_getElem? (i := 653) rfl) rfl
theorem w_st_88 : Cond.static (xY 88) ∈ xgw := xin (List.mem_of_getElem? (i := 652) (by decide +kernel)) rfl
set_option maxRecDepth 20000 in
theorem w_co_89 : Cond.code (xY 89) (xB 89) (xnL 89) (xRt 89) ∈ xgw := xin (List.mem_of_getElem? (i := 657) rfl) rfl
theorem w_im_89 : Cond.instanceMethod (xY 89) ∈ xgw := xin (List.mem_of_getElem? (i := 656) (by decide +kernel)) rfl
theorem w_se_89 : Cond.selects (xCN 6) (xY 89) (xY 89) ∈ xgw := xin (List.mem_of_getElem? (i := 23) (by decide +kernel)) rfl
set_option maxRecDepth 20000 in
theorem w_co_90 : Cond.code (xY 90) (xB 90) (xnL 90) (xRt 90) ∈ xgw := xin (List.mem_of_getElem? (i := 661) rfl) rfl
theorem w_im_90 : Cond.instanceMethod (xY 90) ∈ xgw := xin (List.mem_of_getElem? (i := 660) (by decide +kernel)) rfl
theorem w_se_90 : Cond.selects (xCN 6) (xY 90) (xY 90) ∈ xgw := xin (List.mem_of_getElem? (i := 24) (by decide +kernel)) rfl
set_option maxRecDepth 20000 in
theorem w_co_91 : Cond.code (xY 91) (xB 91) (xnL 91) (xRt 91) ∈ xgw := xin (List.mem_of_getElem? (i := 667) rfl) rfl
theorem w_im_91 : Cond.instanceMethod (xY 91) ∈ xgw := xin (List.mem_of_getElem? (i := 666) (by decide +kernel)) rfl
theorem w_se_91 : Cond.selects (xCN 6) (xY 91) (xY 91) ∈ xgw := xin (List.mem_of_getElem? (i := 25) (by decide +kernel)) rfl
set_option maxRecDepth 20000 in
theorem w_co_92 : Cond.code (xY 92) (xB 92) (xnL 92) (xRt 92) ∈ xgw := xin (List.mem_of_getElem? (i := 673) rfl) rfl
theorem w_im_92 : Cond.instanceMethod (xY 92) ∈ xgw := xin (List.mem_of_getElem? (i := 672) (by decide +kernel)) rfl
theorem w_se_92 : Cond.selects (xCN 6) (xY 92) (xY 92) ∈ xgw := xin (List.mem_of_getElem? (i := 26) (by decide +kernel)) rfl
set_option maxRecDepth 20000 in
theorem w_co_93 : Cond.code (xY 93) (xB 93) (xnL 93) (xRt 93) ∈ xgw := xin (List.mem_of_getElem? (i := 677) rfl) rfl
theorem w_im_93 : Cond.instanceMethod (xY 93) ∈ xgw := xin (List.mem_of_getElem? (i := 676) (by decide +kernel)) rfl
theorem w_se_93 : Cond.selects (xCN 6) (xY 93) (xY 93) ∈ xgw := xin (List.mem_of_getElem? (i := 27) (by decide +kernel)) rfl
set_option maxRecDepth 20000 in
theorem w_co_94 : Cond.code (xY 94) (xB 94) (xnL 94) (xRt 94) ∈ xgw := xin (List.mem_of_getElem? (i := 681) rfl) rfl
theorem w_im_94 : Cond.instanceMethod (xY 94) ∈ xgw := xin (List.mem_of_getElem? (i := 680) (by decide +kernel)) rfl
theorem w_se_94 : Cond.selects (xCN 6) (xY 94) (xY 94) ∈ xgw := xin (List.mem_of_getElem? (i := 28) (by decide +kernel)) rfl
set_option maxRecDepth 20000 in
theorem w_co_95 : Cond.code (xY 95) (xB 95) (xnL 95) (xRt 95) ∈ xgw := xin (List.mem_of_getElem? (i := 685) rfl) rfl
theorem w_im_95 : Cond.instanceMethod (xY 95) ∈ xgw := xin (List.mem_of_getElem? (i := 684) (by decide +kernel)) rfl
theorem w_se_95 : Cond.selects (xCN 6) (xY 95) (xY 95) ∈ xgw := xin (List.mem_of_getElem? (i := 29) (by decide +kernel)) rfl
set_option maxRecDepth 20000 in
theorem w_co_96 : Cond.code (xY 96) (xB 96) (xnL 96) (xRt 96) ∈ xgw := xin (List.mem_of_getElem? (i := 689) rfl) rfl
theorem w_im_96 : Cond.instanceMethod (xY 96) ∈ xgw := xin (List.mem_of_getElem? (i := 688) (by decide +kernel)) rfl
theorem w_se_96 : Cond.selects (xCN 6) (xY 96) (xY 96) ∈ xgw := xin (List.mem_of_getElem? (i := 30) (by decide +kernel)) rfl
set_option maxRecDepth 20000 in
theorem w_co_97 : Cond.code (xY 97) (xB 97) (xnL 97) (xRt 97) ∈ xgw := xin (List.mem_of_getElem? (i := 693) rfl) rfl
theorem w_im_97 : Cond.instanceMethod (xY 97) ∈ xgw := xin (List.mem_of_getElem? (i := 692) (by decide +kernel)) rfl
theorem w_se_97 : Cond.selects (xCN 6) (xY 97) (xY 97) ∈ xgw := xin (List.mem_of_getElem? (i := 31) (by decide +kernel)) rfl
set_option maxRecDepth 20000 in
theorem w_co_98 : Cond.code (xY 98) (xB 98) (xnL 98) (xRt 98) ∈ xgw := xin (List.mem_of_getElem? (i := 697) rfl) rfl
theorem w_im_98 : Cond.instanceMethod (xY 98) ∈ xgw := xin (List.mem_of_getElem? (i := 696) (by decide +kernel)) rfl
theorem w_se_98 : Cond.selects (xCN 6) (xY 98) (xY 98) ∈ xgw := xin (List.mem_of_getElem? (i := 32) (by decide +kernel)) rfl
set_option maxRecDepth 20000 in
theorem w_co_99 : Cond.code (xY 99) (xB 99) (xnL 99) (xRt 99) ∈ xgw := xin (List.mem_of_getElem? (i := 701) rfl) rfl
theorem w_im_99 : Cond.instanceMethod (xY 99) ∈ xgw := xin (List.mem_of_getElem? (i := 700) (by decide +kernel)) rfl
theorem w_se_99 : Cond.selects (xCN 6) (xY 99) (xY 99) ∈ xgw := xin (List.mem_of_getElem? (i := 33) (by decide +kernel)) rfl
set_option maxRecDepth 20000 in
theorem w_co_100 : Cond.code (xY 100) (xB 100) (xnL 100) (xRt 100) ∈ xgw := xin (List.mem_of_getElem? (i := 704) rfl) rfl
theorem w_st_100 : Cond.static (xY 100) ∈ xgw := xin (List.mem_of_getElem? (i := 703) (by decide +kernel)) rfl
set_option maxRecDepth 20000 in
theorem w_co_101 : Cond.code (xY 101) (xB 101) (xnL 101) (xRt 101) ∈ xgw := xin (List.mem_of_getElem? (i := 711) rfl) rfl
theorem w_im_101 : Cond.instanceMethod (xY 101) ∈ xgw := xin (List.mem_of_getElem? (i := 710) (by decide +kernel)) rfl
theorem w_se_101 : Cond.selects (xCN 6) (xY 101) (xY 101) ∈ xgw := xin (List.mem_of_getElem? (i := 34) (by decide +kernel)) rfl
set_option maxRecDepth 20000 in
theorem w_co_102 : Cond.code (xY 102) (xB 102) (xnL 102) (xRt 102) ∈ xgw := xin (List.mem_of_getElem? (i := 715) rfl) rfl
theorem w_im_102 : Cond.instanceMethod (xY 102) ∈ xgw := xin (List.mem_of_getElem? (i := 714) (by decide +kernel)) rfl
theorem w_se_102 : Cond.selects (xCN 6) (xY 102) (xY 102) ∈ xgw := xin (List.mem_of_getElem? (i := 35) (by decide +kernel)) rfl
set_option maxRecDepth 20000 in
theorem w_co_103 : Cond.code (xY 103) (xB 103) (xnL 103) (xRt 103) ∈ xgw := xin (List.mem_of_getElem? (i := 720) rfl) rfl
theorem w_im_103 : Cond.instanceMethod (xY 103) ∈ xgw := xin (List.mem_of_getElem? (i := 718) (by decide +kernel)) rfl
theorem w_se_103 : Cond.selects (xCN 6) (xY 103) (xY 103) ∈ xgw := xin (List.mem_of_getElem? (i := 719) (by decide +kernel)) rfl
set_option maxRecDepth 20000 in
theorem w_co_104 : Cond.code (xY 104) (xB 104) (xnL 104) (xRt 104) ∈ xgw := xin (List.mem_of_getElem? (i := 724) rfl) rfl
theorem w_im_104 : Cond.instanceMethod (xY 104) ∈ xgw := xin (List.mem_of_getElem? (i := 722) (by decide +kernel)) rfl
theorem w_se_104 : Cond.selects (xCN 6) (xY 104) (xY 104) ∈ xgw := xin (List.mem_of_getElem? (i := 723) (by decide +kernel)) rfl
set_option maxRecDepth 20000 in
theorem w_co_105 : Cond.code (xY 105) (xB 105) (xnL 105) (xRt 105) ∈ xgw := xin (List.mem_of_getElem? (i := 728) rfl) rfl
theorem w_im_105 : Cond.instanceMethod (xY 105) ∈ xgw := xin (List.mem_of_getElem? (i := 726) (by decide +kernel)) rfl
theorem w_se_105 : Cond.selects (xCN 6) (xY 105) (xY 105) ∈ xgw := xin (List.mem_of_getElem? (i := 727) (by decide +kernel)) rfl
set_option maxRecDepth 20000 in
theorem w_co_106 : Cond.code (xY 106) (xB 106) (xnL 106) (xRt 106) ∈ xgw := xin (List.mem_of_getElem? (i := 732) rfl) rfl
theorem w_im_106 : Cond.instanceMethod (xY 106) ∈ xgw := xin (List.mem_of_getElem? (i := 730) (by decide +kernel)) rfl
theorem w_se_106 : Cond.selects (xCN 6) (xY 106) (xY 106) ∈ xgw := xin (List.mem_of_getElem? (i := 731) (by decide +kernel)) rfl
set_option maxRecDepth 20000 in
theorem w_co_107 : Cond.code (xY 107) (xB 107) (xnL 107) (xRt 107) ∈ xgw := xin (List.mem_of_getElem? (i := 736) rfl) rfl
theorem w_im_107 : Cond.instanceMethod (xY 107) ∈ xgw := xin (List.mem_of_getElem? (i := 734) (by decide +kernel)) rfl
theorem w_se_107 : Cond.selects (xCN 6) (xY 107) (xY 107) ∈ xgw := xin (List.mem_of_getElem? (i := 735) (by decide +kernel)) rfl
set_option maxRecDepth 20000 in
theorem w_co_108 : Cond.code (xY 108) (xB 108) (xnL 108) (xRt 108) ∈ xgw := xin (List.mem_of_getElem? (i := 740) rfl) rfl
theorem w_im_108 : Cond.instanceMethod (xY 108) ∈ xgw := xin (List.mem_of_getElem? (i := 738) (by decide +kernel)) rfl
theorem w_se_108 : Cond.selects (xCN 6) (xY 108) (xY 108) ∈ xgw := xin (List.mem_of_getElem? (i := 739) (by decide +kernel)) rfl
set_option maxRecDepth 20000 in
theorem w_co_109 : Cond.code (xY 109) (xB 109) (xnL 109) (xRt 109) ∈ xgw := xin (List.mem_of_getElem? (i := 744) rfl) rfl
theorem w_im_109 : Cond.instanceMethod (xY 109) ∈ xgw := xin (List.mem_of_getElem? (i := 742) (by decide +kernel)) rfl
theorem w_se_109 : Cond.selects (xCN 6) (xY 109) (xY 109) ∈ xgw := xin (List.mem_of_getElem? (i := 743) (by decide +kernel)) rfl
set_option maxRecDepth 20000 in
theorem w_co_110 : Cond.code (xY 110) (xB 110) (xnL 110) (xRt 110) ∈ xgw := xin (List.mem_of_getElem? (i := 748) rfl) rfl
theorem w_im_110 : Cond.instanceMethod (xY 110) ∈ xgw := xin (List.mem_of_getElem? (i := 746) (by decide +kernel)) rfl
theorem w_se_110 : Cond.selects (xCN 6) (xY 110) (xY 110) ∈ xgw := xin (List.mem_of_getElem? (i := 747) (by decide +kernel)) rfl
theorem w_oi : Cond.instanceMethod Lib.objectInit ∈ xgw := xin (List.mem_of_getElem? (i := 54) (by decide +kernel)) rfl
theorem w_oc : Cond.code Lib.objectInit ⟨#[0xb1]⟩ 1 none ∈ xgw := xin (List.mem_of_getElem? (i := 55) rfl) rfl
theorem w_an : Cond.native arraycopyName ∈ xgw := xin (List.mem_of_getElem? (i := 375) (by decide +kernel)) rfl
theorem w_as : Cond.static arraycopyName ∈ xgw := xin (List.mem_of_getElem? (i := 374) (by decide +kernel)) rfl
theorem w_ai : Cond.initialized "java/lang/System" ∈ xgw := xin (List.mem_of_getElem? (i := 45) (by decide +kernel)) rfl
theorem f_a0 : Cond.arrayClass .int ∈ xgw := xin (List.mem_of_getElem? (i := 72) (by decide +kernel)) rfl
theorem f_a1 : Cond.arrayClass .boolean ∈ xgw := xin (List.mem_of_getElem? (i := 596) (by decide +kernel)) rfl
theorem f_a2 : Cond.arrayClass .long ∈ xgw := xin (List.mem_of_getElem? (i := 597) (by decide +kernel)) rfl
theorem w_ml_0_1 : Cond.methodLink (xON 0) 1 Lib.objectInit ∈ xgw := xin (List.mem_of_getElem? (i := 53) (by decide +kernel)) rfl
theorem w_ml_0_18 : Cond.methodLink (xON 0) 18 (xY 3) ∈ xgw := xin (List.mem_of_getElem? (i := 75) (by decide +kernel)) rfl
theorem w_ml_0_23 : Cond.methodLink (xON 0) 23 (xY 8) ∈ xgw := xin (List.mem_of_getElem? (i := 229) (by decide +kernel)) rfl
theorem w_ml_0_31 : Cond.methodLink (xON 0) 31 (xY 13) ∈ xgw := xin (List.mem_of_getElem? (i := 248) (by decide +kernel)) rfl
theorem w_ml_0_35 : Cond.methodLink (xON 0) 35 (xY 19) ∈ xgw := xin (List.mem_of_getElem? (i := 272) (by decide +kernel)) rfl
theorem w_ml_0_49 : Cond.methodLink (xON 0) 49 (xY 64) ∈ xgw := xin (List.mem_of_getElem? (i := 448) (by decide +kernel)) rfl
theorem w_ml_0_55 : Cond.methodLink (xON 0) 55 (xY 66) ∈ xgw := xin (List.mem_of_getElem? (i := 456) (by decide +kernel)) rfl
theorem w_ml_0_67 : Cond.methodLink (xON 0) 67 (xY 17) ∈ xgw := xin (List.mem_of_getElem? (i := 476) (by decide +kernel)) rfl
theorem w_ml_0_71 : Cond.methodLink (xON 0) 71 (xY 71) ∈ xgw := xin (List.mem_of_getElem? (i := 477) (by decide +kernel)) rfl
theorem w_ml_1_3 : Cond.methodLink (xON 1) 3 Lib.objectInit ∈ xgw := xin (List.mem_of_getElem? (i := 78) (by decide +kernel)) rfl
theorem w_ml_1_52 : Cond.methodLink (xON 1) 52 (xY 14) ∈ xgw := xin (List.mem_of_getElem? (i := 252) (by decide +kernel)) rfl
theorem w_ml_1_56 : Cond.methodLink (xON 1) 56 (xY 16) ∈ xgw := xin (List.mem_of_getElem? (i := 259) (by decide +kernel)) rfl
theorem w_ml_1_77 : Cond.methodLink (xON 1) 77 (xY 17) ∈ xgw := xin (List.mem_of_getElem? (i := 263) (by decide +kernel)) rfl
theorem w_ml_1_81 : Cond.methodLink (xON 1) 81 (xY 18) ∈ xgw := xin (List.mem_of_getElem? (i := 267) (by decide +kernel)) rfl
theorem w_ml_1_90 : Cond.methodLink (xON 1) 90 (xY 20) ∈ xgw := xin (List.mem_of_getElem? (i := 276) (by decide +kernel)) rfl
theorem w_ml_1_94 : Cond.methodLink (xON 1) 94 (xY 23) ∈ xgw := xin (List.mem_of_getElem? (i := 289) (by decide +kernel)) rfl
theorem w_ml_1_98 : Cond.methodLink (xON 1) 98 (xY 24) ∈ xgw := xin (List.mem_of_getElem? (i := 290) (by decide +kernel)) rfl
theorem w_ml_1_101 : Cond.methodLink (xON 1) 101 (xY 25) ∈ xgw := xin (List.mem_of_getElem? (i := 294) (by decide +kernel)) rfl
theorem w_ml_1_104 : Cond.methodLink (xON 1) 104 (xY 28) ∈ xgw := xin (List.mem_of_getElem? (i := 303) (by decide +kernel)) rfl
theorem w_ml_1_131 : Cond.methodLink (xON 1) 131 (xY 29) ∈ xgw := xin (List.mem_of_getElem? (i := 307) (by decide +kernel)) rfl
theorem w_ml_1_135 : Cond.methodLink (xON 1) 135 (xY 30) ∈ xgw := xin (List.mem_of_getElem? (i := 311) (by decide +kernel)) rfl
theorem w_ml_1_108 : Cond.methodLink (xON 1) 108 (xY 21) ∈ xgw := xin (List.mem_of_getElem? (i := 315) (by decide +kernel)) rfl
theorem w_ml_1_111 : Cond.methodLink (xON 1) 111 (xY 31) ∈ xgw := xin (List.mem_of_getElem? (i := 316) (by decide +kernel)) rfl
theorem w_ml_1_115 : Cond.methodLink (xON 1) 115 (xY 32) ∈ xgw := xin (List.mem_of_getElem? (i := 320) (by decide +kernel)) rfl
theorem w_ml_1_138 : Cond.methodLink (xON 1) 138 (xY 33) ∈ xgw := xin (List.mem_of_getElem? (i := 324) (by decide +kernel)) rfl
theorem w_ml_1_151 : Cond.methodLink (xON 1) 151 (xY 34) ∈ xgw := xin (List.mem_of_getElem? (i := 328) (by decide +kernel)) rfl
theorem w_ml_1_154 : Cond.methodLink (xON 1) 154 (xY 35) ∈ xgw := xin (List.mem_of_getElem? (i := 331) (by decide +kernel)) rfl
theorem w_ml_1_157 : Cond.methodLink (xON 1) 157 (xY 36) ∈ xgw := xin (List.mem_of_getElem? (i := 335) (by decide +kernel)) rfl
theorem w_ml_1_160 : Cond.methodLink (xON 1) 160 (xY 37) ∈ xgw := xin (List.mem_of_getElem? (i := 338) (by decide +kernel)) rfl
theorem w_ml_1_169 : Cond.methodLink (xON 1) 169 (xY 38) ∈ xgw := xin (List.mem_of_getElem? (i := 342) (by decide +kernel)) rfl
theorem w_ml_1_177 : Cond.methodLink (xON 1) 177 (xY 39) ∈ xgw := xin (List.mem_of_getElem? (i := 346) (by decide +kernel)) rfl
theorem w_ml_1_181 : Cond.methodLink (xON 1) 181 (xY 40) ∈ xgw := xin (List.mem_of_getElem? (i := 350) (by decide +kernel)) rfl
theorem w_ml_1_184 : Cond.methodLink (xON 1) 184 (xY 41) ∈ xgw := xin (List.mem_of_getElem? (i := 355) (by decide +kernel)) rfl
theorem w_ml_1_173 : Cond.methodLink (xON 1) 173 (xY 42) ∈ xgw := xin (List.mem_of_getElem? (i := 358) (by decide +kernel)) rfl
theorem w_ml_1_166 : Cond.methodLink (xON 1) 166 (xY 43) ∈ xgw := xin (List.mem_of_getElem? (i := 362) (by decide +kernel)) rfl
theorem w_ml_1_141 : Cond.methodLink (xON 1) 141 (xY 44) ∈ xgw := xin (List.mem_of_getElem? (i := 365) (by decide +kernel)) rfl
theorem w_ml_1_192 : Cond.methodLink (xON 1) 192 (xY 45) ∈ xgw := xin (List.mem_of_getElem? (i := 369) (by decide +kernel)) rfl
theorem w_ml_1_118 : Cond.methodLink (xON 1) 118 (xY 46) ∈ xgw := xin (List.mem_of_getElem? (i := 376) (by decide +kernel)) rfl
theorem w_ml_1_196 : Cond.methodLink (xON 1) 196 arraycopyName ∈ xgw := xin (List.mem_of_getElem? (i := 379) (by decide +kernel)) rfl
theorem w_ml_1_145 : Cond.methodLink (xON 1) 145 (xY 47) ∈ xgw := xin (List.mem_of_getElem? (i := 380) (by decide +kernel)) rfl
theorem w_ml_1_205 : Cond.methodLink (xON 1) 205 (xY 48) ∈ xgw := xin (List.mem_of_getElem? (i := 384) (by decide +kernel)) rfl
theorem w_ml_1_208 : Cond.methodLink (xON 1) 208 (xY 51) ∈ xgw := xin (List.mem_of_getElem? (i := 396) (by decide +kernel)) rfl
theorem w_ml_1_223 : Cond.methodLink (xON 1) 223 (xY 52) ∈ xgw := xin (List.mem_of_getElem? (i := 400) (by decide +kernel)) rfl
theorem w_ml_1_229 : Cond.methodLink (xON 1) 229 (xY 53) ∈ xgw := xin (List.mem_of_getElem? (i := 404) (by decide +kernel)) rfl
theorem w_ml_1_233 : Cond.methodLink (xON 1) 233 (xY 54) ∈ xgw := xin (List.mem_of_getElem? (i := 407) (by decide +kernel)) rfl
theorem w_ml_1_148 : Cond.methodLink (xON 1) 148 (xY 55) ∈ xgw := xin (List.mem_of_getElem? (i := 410) (by decide +kernel)) rfl
theorem w_ml_1_226 : Cond.methodLink (xON 1) 226 (xY 56) ∈ xgw := xin (List.mem_of_getElem? (i := 414) (by decide +kernel)) rfl
theorem w_ml_1_236 : Cond.methodLink (xON 1) 236 (xY 49) ∈ xgw := xin (List.mem_of_getElem? (i := 418) (by decide +kernel)) rfl
theorem w_ml_1_245 : Cond.methodLink (xON 1) 245 (xY 57) ∈ xgw := xin (List.mem_of_getElem? (i := 419) (by decide +kernel)) rfl
theorem w_ml_1_252 : Cond.methodLink (xON 1) 252 (xY 59) ∈ xgw := xin (List.mem_of_getElem? (i := 428) (by decide +kernel)) rfl
theorem w_ml_1_123 : Cond.methodLink (xON 1) 123 (xY 60) ∈ xgw := xin (List.mem_of_getElem? (i := 432) (by decide +kernel)) rfl
theorem w_ml_2_3 : Cond.methodLink (xON 2) 3 Lib.objectInit ∈ xgw := xin (List.mem_of_getElem? (i := 84) (by decide +kernel)) rfl
theorem w_ml_2_22 : Cond.methodLink (xON 2) 22 (xY 15) ∈ xgw := xin (List.mem_of_getElem? (i := 256) (by decide +kernel)) rfl
theorem w_ml_3_3 : Cond.methodLink (xON 3) 3 Lib.objectInit ∈ xgw := xin (List.mem_of_getElem? (i := 102) (by decide +kernel)) rfl
theorem w_ml_3_50 : Cond.methodLink (xON 3) 50 (xY 49) ∈ xgw := xin (List.mem_of_getElem? (i := 388) (by decide +kernel)) rfl
theorem w_ml_3_53 : Cond.methodLink (xON 3) 53 (xY 50) ∈ xgw := xin (List.mem_of_getElem? (i := 392) (by decide +kernel)) rfl
theorem w_ml_3_57 : Cond.methodLink (xON 3) 57 (xY 15) ∈ xgw := xin (List.mem_of_getElem? (i := 423) (by decide +kernel)) rfl
theorem w_ml_3_63 : Cond.methodLink (xON 3) 63 (xY 58) ∈ xgw := xin (List.mem_of_getElem? (i := 424) (by decide +kernel)) rfl
theorem w_ml_4_3 : Cond.methodLink (xON 4) 3 Lib.objectInit ∈ xgw := xin (List.mem_of_getElem? (i := 152) (by decide +kernel)) rfl
theorem w_ml_4_18 : Cond.methodLink (xON 4) 18 (xY 15) ∈ xgw := xin (List.mem_of_getElem? (i := 271) (by decide +kernel)) rfl
theorem w_ml_4_28 : Cond.methodLink (xON 4) 28 arraycopyName ∈ xgw := xin (List.mem_of_getElem? (i := 373) (by decide +kernel)) rfl
theorem w_ml_4_34 : Cond.methodLink (xON 4) 34 (xY 72) ∈ xgw := xin (List.mem_of_getElem? (i := 481) (by decide +kernel)) rfl
theorem w_ml_5_3 : Cond.methodLink (xON 5) 3 Lib.objectInit ∈ xgw := xin (List.mem_of_getElem? (i := 61) (by decide +kernel)) rfl
theorem w_ml_5_15 : Cond.methodLink (xON 5) 15 (xY 9) ∈ xgw := xin (List.mem_of_getElem? (i := 233) (by decide +kernel)) rfl
theorem w_ml_5_23 : Cond.methodLink (xON 5) 23 (xY 21) ∈ xgw := xin (List.mem_of_getElem? (i := 280) (by decide +kernel)) rfl
theorem w_ml_5_27 : Cond.methodLink (xON 5) 27 (xY 22) ∈ xgw := xin (List.mem_of_getElem? (i := 283) (by decide +kernel)) rfl
theorem w_ml_5_30 : Cond.methodLink (xON 5) 30 (xY 23) ∈ xgw := xin (List.mem_of_getElem? (i := 286) (by decide +kernel)) rfl
theorem w_ml_5_33 : Cond.methodLink (xON 5) 33 (xY 26) ∈ xgw := xin (List.mem_of_getElem? (i := 297) (by decide +kernel)) rfl
theorem w_ml_5_36 : Cond.methodLink (xON 5) 36 (xY 27) ∈ xgw := xin (List.mem_of_getElem? (i := 300) (by decide +kernel)) rfl
theorem w_ml_6_1 : Cond.methodLink (xON 6) 1 Lib.objectInit ∈ xgw := xin (List.mem_of_getElem? (i := 492) (by decide +kernel)) rfl
theorem w_ml_6_102 : Cond.methodLink (xON 6) 102 (xY 78) ∈ xgw := xin (List.mem_of_getElem? (i := 614) (by decide +kernel)) rfl
theorem w_ml_6_55 : Cond.methodLink (xON 6) 55 (xY 79) ∈ xgw := xin (List.mem_of_getElem? (i := 618) (by decide +kernel)) rfl
theorem w_ml_6_110 : Cond.methodLink (xON 6) 110 (xY 80) ∈ xgw := xin (List.mem_of_getElem? (i := 621) (by decide +kernel)) rfl
theorem w_ml_6_59 : Cond.methodLink (xON 6) 59 (xY 81) ∈ xgw := xin (List.mem_of_getElem? (i := 625) (by decide +kernel)) rfl
theorem w_ml_6_106 : Cond.methodLink (xON 6) 106 (xY 82) ∈ xgw := xin (List.mem_of_getElem? (i := 628) (by decide +kernel)) rfl
theorem w_ml_6_113 : Cond.methodLink (xON 6) 113 (xY 83) ∈ xgw := xin (List.mem_of_getElem? (i := 632) (by decide +kernel)) rfl
theorem w_ml_6_62 : Cond.methodLink (xON 6) 62 (xY 84) ∈ xgw := xin (List.mem_of_getElem? (i := 636) (by decide +kernel)) rfl
theorem w_ml_6_116 : Cond.methodLink (xON 6) 116 (xY 85) ∈ xgw := xin (List.mem_of_getElem? (i := 639) (by decide +kernel)) rfl
theorem w_ml_6_120 : Cond.methodLink (xON 6) 120 (xY 86) ∈ xgw := xin (List.mem_of_getElem? (i := 643) (by decide +kernel)) rfl
theorem w_ml_6_123 : Cond.methodLink (xON 6) 123 (xY 87) ∈ xgw := xin (List.mem_of_getElem? (i := 647) (by decide +kernel)) rfl
theorem w_ml_6_141 : Cond.methodLink (xON 6) 141 (xY 88) ∈ xgw := xin (List.mem_of_getElem? (i := 651) (by decide +kernel)) rfl
theorem w_ml_6_144 : Cond.methodLink (xON 6) 144 (xY 89) ∈ xgw := xin (List.mem_of_getElem? (i := 654) (by decide +kernel)) rfl
theorem w_ml_6_150 : Cond.methodLink (xON 6) 150 (xY 90) ∈ xgw := xin (List.mem_of_getElem? (i := 658) (by decide +kernel)) rfl
theorem w_ml_6_154 : Cond.methodLink (xON 6) 154 (xY 91) ∈ xgw := xin (List.mem_of_getElem? (i := 664) (by decide +kernel)) rfl
theorem w_ml_6_126 : Cond.methodLink (xON 6) 126 (xY 92) ∈ xgw := xin (List.mem_of_getElem? (i := 670) (by decide +kernel)) rfl
theorem w_ml_6_200 : Cond.methodLink (xON 6) 200 (xY 93) ∈ xgw := xin (List.mem_of_getElem? (i := 674) (by decide +kernel)) rfl
theorem w_ml_6_203 : Cond.methodLink (xON 6) 203 (xY 94) ∈ xgw := xin (List.mem_of_getElem? (i := 678) (by decide +kernel)) rfl
theorem w_ml_6_206 : Cond.methodLink (xON 6) 206 (xY 95) ∈ xgw := xin (List.mem_of_getElem? (i := 682) (by decide +kernel)) rfl
theorem w_ml_6_181 : Cond.methodLink (xON 6) 181 (xY 96) ∈ xgw := xin (List.mem_of_getElem? (i := 686) (by decide +kernel)) rfl
theorem w_ml_6_177 : Cond.methodLink (xON 6) 177 (xY 97) ∈ xgw := xin (List.mem_of_getElem? (i := 690) (by decide +kernel)) rfl
theorem w_ml_6_209 : Cond.methodLink (xON 6) 209 (xY 98) ∈ xgw := xin (List.mem_of_getElem? (i := 694) (by decide +kernel)) rfl
theorem w_ml_6_212 : Cond.methodLink (xON 6) 212 (xY 99) ∈ xgw := xin (List.mem_of_getElem? (i := 698) (by decide +kernel)) rfl
theorem w_ml_6_190 : Cond.methodLink (xON 6) 190 (xY 100) ∈ xgw := xin (List.mem_of_getElem? (i := 702) (by decide +kernel)) rfl
theorem w_ml_6_215 : Cond.methodLink (xON 6) 215 (xY 101) ∈ xgw := xin (List.mem_of_getElem? (i := 708) (by decide +kernel)) rfl
theorem w_ml_6_196 : Cond.methodLink (xON 6) 196 (xY 102) ∈ xgw := xin (List.mem_of_getElem? (i := 712) (by decide +kernel)) rfl
theorem w_ml_7_9 : Cond.methodLink (xON 7) 9 (xY 1) ∈ xgw := xin (List.mem_of_getElem? (i := 50) (by decide +kernel)) rfl
theorem w_ml_7_13 : Cond.methodLink (xON 7) 13 (xY 7) ∈ xgw := xin (List.mem_of_getElem? (i := 225) (by decide +kernel)) rfl
theorem w_ml_7_18 : Cond.methodLink (xON 7) 18 (xY 10) ∈ xgw := xin (List.mem_of_getElem? (i := 236) (by decide +kernel)) rfl
theorem w_ml_7_23 : Cond.methodLink (xON 7) 23 (xY 11) ∈ xgw := xin (List.mem_of_getElem? (i := 240) (by decide +kernel)) rfl
theorem w_ml_7_27 : Cond.methodLink (xON 7) 27 (xY 12) ∈ xgw := xin (List.mem_of_getElem? (i := 244) (by decide +kernel)) rfl
theorem w_ml_7_32 : Cond.methodLink (xON 7) 32 (xY 61) ∈ xgw := xin (List.mem_of_getElem? (i := 436) (by decide +kernel)) rfl
theorem w_ml_7_36 : Cond.methodLink (xON 7) 36 (xY 62) ∈ xgw := xin (List.mem_of_getElem? (i := 440) (by decide +kernel)) rfl
theorem w_ml_7_40 : Cond.methodLink (xON 7) 40 (xY 63) ∈ xgw := xin (List.mem_of_getElem? (i := 444) (by decide +kernel)) rfl
theorem w_ml_7_44 : Cond.methodLink (xON 7) 44 (xY 65) ∈ xgw := xin (List.mem_of_getElem? (i := 452) (by decide +kernel)) rfl
theorem w_ml_7_48 : Cond.methodLink (xON 7) 48 (xY 67) ∈ xgw := xin (List.mem_of_getElem? (i := 460) (by decide +kernel)) rfl
theorem w_ml_7_52 : Cond.methodLink (xON 7) 52 (xY 68) ∈ xgw := xin (List.mem_of_getElem? (i := 464) (by decide +kernel)) rfl
theorem w_ml_7_56 : Cond.methodLink (xON 7) 56 (xY 69) ∈ xgw := xin (List.mem_of_getElem? (i := 468) (by decide +kernel)) rfl
theorem w_ml_7_60 : Cond.methodLink (xON 7) 60 (xY 70) ∈ xgw := xin (List.mem_of_getElem? (i := 472) (by decide +kernel)) rfl
theorem w_ml_7_12 : Cond.methodLink (xON 7) 12 (xY 73) ∈ xgw := xin (List.mem_of_getElem? (i := 489) (by decide +kernel)) rfl
theorem w_ml_7_17 : Cond.methodLink (xON 7) 17 (xY 74) ∈ xgw := xin (List.mem_of_getElem? (i := 598) (by decide +kernel)) rfl
theorem w_ml_7_22 : Cond.methodLink (xON 7) 22 (xY 75) ∈ xgw := xin (List.mem_of_getElem? (i := 602) (by decide +kernel)) rfl
theorem w_ml_7_26 : Cond.methodLink (xON 7) 26 (xY 76) ∈ xgw := xin (List.mem_of_getElem? (i := 606) (by decide +kernel)) rfl
theorem w_ml_7_31 : Cond.methodLink (xON 7) 31 (xY 77) ∈ xgw := xin (List.mem_of_getElem? (i := 610) (by decide +kernel)) rfl
theorem w_ml_7_35 : Cond.methodLink (xON 7) 35 (xY 103) ∈ xgw := xin (List.mem_of_getElem? (i := 717) (by decide +kernel)) rfl
theorem w_ml_7_39 : Cond.methodLink (xON 7) 39 (xY 104) ∈ xgw := xin (List.mem_of_getElem? (i := 721) (by decide +kernel)) rfl
theorem w_ml_7_43 : Cond.methodLink (xON 7) 43 (xY 105) ∈ xgw := xin (List.mem_of_getElem? (i := 725) (by decide +kernel)) rfl
theorem w_ml_7_47 : Cond.methodLink (xON 7) 47 (xY 106) ∈ xgw := xin (List.mem_of_getElem? (i := 729) (by decide +kernel)) rfl
theorem w_ml_7_51 : Cond.methodLink (xON 7) 51 (xY 107) ∈ xgw := xin (List.mem_of_getElem? (i := 733) (by decide +kernel)) rfl
theorem w_ml_7_55 : Cond.methodLink (xON 7) 55 (xY 108) ∈ xgw := xin (List.mem_of_getElem? (i := 737) (by decide +kernel)) rfl
theorem w_ml_7_59 : Cond.methodLink (xON 7) 59 (xY 109) ∈ xgw := xin (List.mem_of_getElem? (i := 741) (by decide +kernel)) rfl
theorem w_ml_7_63 : Cond.methodLink (xON 7) 63 (xY 110) ∈ xgw := xin (List.mem_of_getElem? (i := 745) (by decide +kernel)) rfl
theorem w_fl_0_27 : Cond.fieldLink (xON 0) 27 (xCN 5) (xFd 5 1).1 (xFd 5 1).2.1 ∈ xgw := xin (List.mem_of_getElem? (i := 65) (by decide +kernel)) rfl
theorem w_fl_0_45 : Cond.fieldLink (xON 0) 45 (xCN 1) (xFd 1 0).1 (xFd 1 0).2.1 ∈ xgw := xin (List.mem_of_getElem? (i := 167) (by decide +kernel)) rfl
theorem w_fl_0_39 : Cond.fieldLink (xON 0) 39 (xCN 1) (xFd 1 10).1 (xFd 1 10).2.1 ∈ xgw := xin (List.mem_of_getElem? (i := 178) (by decide +kernel)) rfl
theorem w_fl_0_42 : Cond.fieldLink (xON 0) 42 (xCN 1) (xFd 1 11).1 (xFd 1 11).2.1 ∈ xgw := xin (List.mem_of_getElem? (i := 180) (by decide +kernel)) rfl
theorem w_fl_0_58 : Cond.fieldLink (xON 0) 58 (xCN 1) (xFd 1 12).1 (xFd 1 12).2.1 ∈ xgw := xin (List.mem_of_getElem? (i := 182) (by decide +kernel)) rfl
theorem w_fl_0_61 : Cond.fieldLink (xON 0) 61 (xCN 1) (xFd 1 13).1 (xFd 1 13).2.1 ∈ xgw := xin (List.mem_of_getElem? (i := 184) (by decide +kernel)) rfl
theorem w_fl_0_64 : Cond.fieldLink (xON 0) 64 (xCN 1) (xFd 1 14).1 (xFd 1 14).2.1 ∈ xgw := xin (List.mem_of_getElem? (i := 186) (by decide +kernel)) rfl
theorem w_fl_0_10 : Cond.fieldLink (xON 0) 10 (xCN 0) (xFd 0 0).1 (xFd 0 0).2.1 ∈ xgw := xin (List.mem_of_getElem? (i := 218) (by decide +kernel)) rfl
theorem w_fl_0_19 : Cond.fieldLink (xON 0) 19 (xCN 0) (xFd 0 1).1 (xFd 0 1).2.1 ∈ xgw := xin (List.mem_of_getElem? (i := 219) (by decide +kernel)) rfl
theorem w_fl_1_87 : Cond.fieldLink (xON 1) 87 (xCN 5) (xFd 5 0).1 (xFd 5 0).2.1 ∈ xgw := xin (List.mem_of_getElem? (i := 63) (by decide +kernel)) rfl
theorem w_fl_1_82 : Cond.fieldLink (xON 1) 82 (xCN 5) (xFd 5 1).1 (xFd 5 1).2.1 ∈ xgw := xin (List.mem_of_getElem? (i := 66) (by decide +kernel)) rfl
theorem w_fl_1_242 : Cond.fieldLink (xON 1) 242 (xCN 2) (xFd 2 1).1 (xFd 2 1).2.1 ∈ xgw := xin (List.mem_of_getElem? (i := 87) (by decide +kernel)) rfl
theorem w_fl_1_239 : Cond.fieldLink (xON 1) 239 (xCN 2) (xFd 2 2).1 (xFd 2 2).2.1 ∈ xgw := xin (List.mem_of_getElem? (i := 89) (by decide +kernel)) rfl
theorem w_fl_1_163 : Cond.fieldLink (xON 1) 163 (xCN 3) (xFd 3 6).1 (xFd 3 6).2.1 ∈ xgw := xin (List.mem_of_getElem? (i := 110) (by decide +kernel)) rfl
theorem w_fl_1_127 : Cond.fieldLink (xON 1) 127 (xCN 3) (xFd 3 7).1 (xFd 3 7).2.1 ∈ xgw := xin (List.mem_of_getElem? (i := 112) (by decide +kernel)) rfl
theorem w_fl_1_211 : Cond.fieldLink (xON 1) 211 (xCN 3) (xFd 3 8).1 (xFd 3 8).2.1 ∈ xgw := xin (List.mem_of_getElem? (i := 114) (by decide +kernel)) rfl
theorem w_fl_1_214 : Cond.fieldLink (xON 1) 214 (xCN 3) (xFd 3 9).1 (xFd 3 9).2.1 ∈ xgw := xin (List.mem_of_getElem? (i := 116) (by decide +kernel)) rfl
theorem w_fl_1_217 : Cond.fieldLink (xON 1) 217 (xCN 3) (xFd 3 10).1 (xFd 3 10).2.1 ∈ xgw := xin (List.mem_of_getElem? (i := 118) (by decide +kernel)) rfl
theorem w_fl_1_220 : Cond.fieldLink (xON 1) 220 (xCN 3) (xFd 3 11).1 (xFd 3 11).2.1 ∈ xgw := xin (List.mem_of_getElem? (i := 120) (by decide +kernel)) rfl
theorem w_fl_1_188 : Cond.fieldLink (xON 1) 188 (xCN 4) (xFd 4 0).1 (xFd 4 0).2.1 ∈ xgw := xin (List.mem_of_getElem? (i := 154) (by decide +kernel)) rfl
theorem w_fl_1_249 : Cond.fieldLink (xON 1) 249 (xCN 4) (xFd 4 1).1 (xFd 4 1).2.1 ∈ xgw := xin (List.mem_of_getElem? (i := 156) (by decide +kernel)) rfl
theorem w_fl_1_202 : Cond.fieldLink (xON 1) 202 (xCN 4) (xFd 4 2).1 (xFd 4 2).2.1 ∈ xgw := xin (List.mem_of_getElem? (i := 158) (by decide +kernel)) rfl
theorem w_fl_1_12 : Cond.fieldLink (xON 1) 12 (xCN 1) (xFd 1 0).1 (xFd 1 0).2.1 ∈ xgw := xin (List.mem_of_getElem? (i := 166) (by decide +kernel)) rfl
theorem w_fl_1_21 : Cond.fieldLink (xON 1) 21 (xCN 1) (xFd 1 1).1 (xFd 1 1).2.1 ∈ xgw := xin (List.mem_of_getElem? (i := 168) (by decide +kernel)) rfl
theorem w_fl_1_27 : Cond.fieldLink (xON 1) 27 (xCN 1) (xFd 1 2).1 (xFd 1 2).2.1 ∈ xgw := xin (List.mem_of_getElem? (i := 169) (by decide +kernel)) rfl
theorem w_fl_1_31 : Cond.fieldLink (xON 1) 31 (xCN 1) (xFd 1 3).1 (xFd 1 3).2.1 ∈ xgw := xin (List.mem_of_getElem? (i := 170) (by decide +kernel)) rfl
theorem w_fl_1_35 : Cond.fieldLink (xON 1) 35 (xCN 1) (xFd 1 4).1 (xFd 1 4).2.1 ∈ xgw := xin (List.mem_of_getElem? (i := 171) (by decide +kernel)) rfl
theorem w_fl_1_38 : Cond.fieldLink (xON 1) 38 (xCN 1) (xFd 1 5).1 (xFd 1 5).2.1 ∈ xgw := xin (List.mem_of_getElem? (i := 172) (by decide +kernel)) rfl
theorem w_fl_1_41 : Cond.fieldLink (xON 1) 41 (xCN 1) (xFd 1 6).1 (xFd 1 6).2.1 ∈ xgw := xin (List.mem_of_getElem? (i := 173) (by decide +kernel)) rfl
theorem w_fl_1_59 : Cond.fieldLink (xON 1) 59 (xCN 1) (xFd 1 7).1 (xFd 1 7).2.1 ∈ xgw := xin (List.mem_of_getElem? (i := 174) (by decide +kernel)) rfl
theorem w_fl_1_49 : Cond.fieldLink (xON 1) 49 (xCN 1) (xFd 1 8).1 (xFd 1 8).2.1 ∈ xgw := xin (List.mem_of_getElem? (i := 175) (by decide +kernel)) rfl
theorem w_fl_1_62 : Cond.fieldLink (xON 1) 62 (xCN 1) (xFd 1 9).1 (xFd 1 9).2.1 ∈ xgw := xin (List.mem_of_getElem? (i := 176) (by decide +kernel)) rfl
theorem w_fl_1_65 : Cond.fieldLink (xON 1) 65 (xCN 1) (xFd 1 10).1 (xFd 1 10).2.1 ∈ xgw := xin (List.mem_of_getElem? (i := 177) (by decide +kernel)) rfl
theorem w_fl_1_45 : Cond.fieldLink (xON 1) 45 (xCN 1) (xFd 1 11).1 (xFd 1 11).2.1 ∈ xgw := xin (List.mem_of_getElem? (i := 179) (by decide +kernel)) rfl
theorem w_fl_1_68 : Cond.fieldLink (xON 1) 68 (xCN 1) (xFd 1 12).1 (xFd 1 12).2.1 ∈ xgw := xin (List.mem_of_getElem? (i := 181) (by decide +kernel)) rfl
theorem w_fl_1_71 : Cond.fieldLink (xON 1) 71 (xCN 1) (xFd 1 13).1 (xFd 1 13).2.1 ∈ xgw := xin (List.mem_of_getElem? (i := 183) (by decide +kernel)) rfl
theorem w_fl_1_74 : Cond.fieldLink (xON 1) 74 (xCN 1) (xFd 1 14).1 (xFd 1 14).2.1 ∈ xgw := xin (List.mem_of_getElem? (i := 185) (by decide +kernel)) rfl
theorem w_fl_2_9 : Cond.fieldLink (xON 2) 9 (xCN 2) (xFd 2 0).1 (xFd 2 0).2.1 ∈ xgw := xin (List.mem_of_getElem? (i := 85) (by decide +kernel)) rfl
theorem w_fl_2_15 : Cond.fieldLink (xON 2) 15 (xCN 2) (xFd 2 1).1 (xFd 2 1).2.1 ∈ xgw := xin (List.mem_of_getElem? (i := 86) (by decide +kernel)) rfl
theorem w_fl_2_19 : Cond.fieldLink (xON 2) 19 (xCN 2) (xFd 2 2).1 (xFd 2 2).2.1 ∈ xgw := xin (List.mem_of_getElem? (i := 88) (by decide +kernel)) rfl
theorem w_fl_3_9 : Cond.fieldLink (xON 3) 9 (xCN 3) (xFd 3 0).1 (xFd 3 0).2.1 ∈ xgw := xin (List.mem_of_getElem? (i := 103) (by decide +kernel)) rfl
theorem w_fl_3_15 : Cond.fieldLink (xON 3) 15 (xCN 3) (xFd 3 1).1 (xFd 3 1).2.1 ∈ xgw := xin (List.mem_of_getElem? (i := 104) (by decide +kernel)) rfl
theorem w_fl_3_18 : Cond.fieldLink (xON 3) 18 (xCN 3) (xFd 3 2).1 (xFd 3 2).2.1 ∈ xgw := xin (List.mem_of_getElem? (i := 105) (by decide +kernel)) rfl
theorem w_fl_3_21 : Cond.fieldLink (xON 3) 21 (xCN 3) (xFd 3 3).1 (xFd 3 3).2.1 ∈ xgw := xin (List.mem_of_getElem? (i := 106) (by decide +kernel)) rfl
theorem w_fl_3_24 : Cond.fieldLink (xON 3) 24 (xCN 3) (xFd 3 4).1 (xFd 3 4).2.1 ∈ xgw := xin (List.mem_of_getElem? (i := 107) (by decide +kernel)) rfl
theorem w_fl_3_27 : Cond.fieldLink (xON 3) 27 (xCN 3) (xFd 3 5).1 (xFd 3 5).2.1 ∈ xgw := xin (List.mem_of_getElem? (i := 108) (by decide +kernel)) rfl
theorem w_fl_3_31 : Cond.fieldLink (xON 3) 31 (xCN 3) (xFd 3 6).1 (xFd 3 6).2.1 ∈ xgw := xin (List.mem_of_getElem? (i := 109) (by decide +kernel)) rfl
theorem w_fl_3_34 : Cond.fieldLink (xON 3) 34 (xCN 3) (xFd 3 7).1 (xFd 3 7).2.1 ∈ xgw := xin (List.mem_of_getElem? (i := 111) (by decide +kernel)) rfl
theorem w_fl_3_38 : Cond.fieldLink (xON 3) 38 (xCN 3) (xFd 3 8).1 (xFd 3 8).2.1 ∈ xgw := xin (List.mem_of_getElem? (i := 113) (by decide +kernel)) rfl
theorem w_fl_3_44 : Cond.fieldLink (xON 3) 44 (xCN 3) (xFd 3 9).1 (xFd 3 9).2.1 ∈ xgw := xin (List.mem_of_getElem? (i := 115) (by decide +kernel)) rfl
theorem w_fl_3_41 : Cond.fieldLink (xON 3) 41 (xCN 3) (xFd 3 10).1 (xFd 3 10).2.1 ∈ xgw := xin (List.mem_of_getElem? (i := 117) (by decide +kernel)) rfl
theorem w_fl_3_47 : Cond.fieldLink (xON 3) 47 (xCN 3) (xFd 3 11).1 (xFd 3 11).2.1 ∈ xgw := xin (List.mem_of_getElem? (i := 119) (by decide +kernel)) rfl
theorem w_fl_4_9 : Cond.fieldLink (xON 4) 9 (xCN 4) (xFd 4 0).1 (xFd 4 0).2.1 ∈ xgw := xin (List.mem_of_getElem? (i := 153) (by decide +kernel)) rfl
theorem w_fl_4_15 : Cond.fieldLink (xON 4) 15 (xCN 4) (xFd 4 1).1 (xFd 4 1).2.1 ∈ xgw := xin (List.mem_of_getElem? (i := 155) (by decide +kernel)) rfl
theorem w_fl_4_24 : Cond.fieldLink (xON 4) 24 (xCN 4) (xFd 4 2).1 (xFd 4 2).2.1 ∈ xgw := xin (List.mem_of_getElem? (i := 157) (by decide +kernel)) rfl
theorem w_fl_5_9 : Cond.fieldLink (xON 5) 9 (xCN 5) (xFd 5 0).1 (xFd 5 0).2.1 ∈ xgw := xin (List.mem_of_getElem? (i := 62) (by decide +kernel)) rfl
theorem w_fl_5_19 : Cond.fieldLink (xON 5) 19 (xCN 5) (xFd 5 1).1 (xFd 5 1).2.1 ∈ xgw := xin (List.mem_of_getElem? (i := 64) (by decide +kernel)) rfl
theorem w_fl_6_7 : Cond.fieldLink (xON 6) 7 (xCN 6) (xFd 6 0).1 (xFd 6 0).2.1 ∈ xgw := xin (List.mem_of_getElem? (i := 493) (by decide +kernel)) rfl
theorem w_fl_6_52 : Cond.fieldLink (xON 6) 52 (xCN 6) (xFd 6 1).1 (xFd 6 1).2.1 ∈ xgw := xin (List.mem_of_getElem? (i := 494) (by decide +kernel)) rfl
theorem w_fl_6_65 : Cond.fieldLink (xON 6) 65 (xCN 6) (xFd 6 2).1 (xFd 6 2).2.1 ∈ xgw := xin (List.mem_of_getElem? (i := 495) (by decide +kernel)) rfl
theorem w_fl_6_68 : Cond.fieldLink (xON 6) 68 (xCN 6) (xFd 6 3).1 (xFd 6 3).2.1 ∈ xgw := xin (List.mem_of_getElem? (i := 496) (by decide +kernel)) rfl
theorem w_fl_6_13 : Cond.fieldLink (xON 6) 13 (xCN 6) (xFd 6 4).1 (xFd 6 4).2.1 ∈ xgw := xin (List.mem_of_getElem? (i := 497) (by decide +kernel)) rfl
theorem w_fl_6_16 : Cond.fieldLink (xON 6) 16 (xCN 6) (xFd 6 5).1 (xFd 6 5).2.1 ∈ xgw := xin (List.mem_of_getElem? (i := 498) (by decide +kernel)) rfl
theorem w_fl_6_20 : Cond.fieldLink (xON 6) 20 (xCN 6) (xFd 6 6).1 (xFd 6 6).2.1 ∈ xgw := xin (List.mem_of_getElem? (i := 499) (by decide +kernel)) rfl
theorem w_fl_6_71 : Cond.fieldLink (xON 6) 71 (xCN 6) (xFd 6 7).1 (xFd 6 7).2.1 ∈ xgw := xin (List.mem_of_getElem? (i := 500) (by decide +kernel)) rfl
theorem w_fl_6_24 : Cond.fieldLink (xON 6) 24 (xCN 6) (xFd 6 8).1 (xFd 6 8).2.1 ∈ xgw := xin (List.mem_of_getElem? (i := 501) (by decide +kernel)) rfl
theorem w_fl_6_27 : Cond.fieldLink (xON 6) 27 (xCN 6) (xFd 6 9).1 (xFd 6 9).2.1 ∈ xgw := xin (List.mem_of_getElem? (i := 502) (by decide +kernel)) rfl
theorem w_fl_6_30 : Cond.fieldLink (xON 6) 30 (xCN 6) (xFd 6 10).1 (xFd 6 10).2.1 ∈ xgw := xin (List.mem_of_getElem? (i := 503) (by decide +kernel)) rfl
theorem w_fl_6_74 : Cond.fieldLink (xON 6) 74 (xCN 6) (xFd 6 11).1 (xFd 6 11).2.1 ∈ xgw := xin (List.mem_of_getElem? (i := 504) (by decide +kernel)) rfl
theorem w_fl_6_33 : Cond.fieldLink (xON 6) 33 (xCN 6) (xFd 6 12).1 (xFd 6 12).2.1 ∈ xgw := xin (List.mem_of_getElem? (i := 505) (by decide +kernel)) rfl
theorem w_fl_6_36 : Cond.fieldLink (xON 6) 36 (xCN 6) (xFd 6 13).1 (xFd 6 13).2.1 ∈ xgw := xin (List.mem_of_getElem? (i := 506) (by decide +kernel)) rfl
theorem w_fl_6_39 : Cond.fieldLink (xON 6) 39 (xCN 6) (xFd 6 14).1 (xFd 6 14).2.1 ∈ xgw := xin (List.mem_of_getElem? (i := 507) (by decide +kernel)) rfl
theorem w_fl_6_42 : Cond.fieldLink (xON 6) 42 (xCN 6) (xFd 6 15).1 (xFd 6 15).2.1 ∈ xgw := xin (List.mem_of_getElem? (i := 508) (by decide +kernel)) rfl
theorem w_fl_6_162 : Cond.fieldLink (xON 6) 162 (xCN 6) (xFd 6 16).1 (xFd 6 16).2.1 ∈ xgw := xin (List.mem_of_getElem? (i := 509) (by decide +kernel)) rfl
theorem w_fl_6_147 : Cond.fieldLink (xON 6) 147 (xCN 6) (xFd 6 17).1 (xFd 6 17).2.1 ∈ xgw := xin (List.mem_of_getElem? (i := 510) (by decide +kernel)) rfl
theorem w_fl_6_77 : Cond.fieldLink (xON 6) 77 (xCN 6) (xFd 6 18).1 (xFd 6 18).2.1 ∈ xgw := xin (List.mem_of_getElem? (i := 511) (by decide +kernel)) rfl
theorem w_fl_6_81 : Cond.fieldLink (xON 6) 81 (xCN 6) (xFd 6 19).1 (xFd 6 19).2.1 ∈ xgw := xin (List.mem_of_getElem? (i := 512) (by decide +kernel)) rfl
theorem w_fl_6_171 : Cond.fieldLink (xON 6) 171 (xCN 6) (xFd 6 20).1 (xFd 6 20).2.1 ∈ xgw := xin (List.mem_of_getElem? (i := 513) (by decide +kernel)) rfl
theorem w_fl_6_174 : Cond.fieldLink (xON 6) 174 (xCN 6) (xFd 6 21).1 (xFd 6 21).2.1 ∈ xgw := xin (List.mem_of_getElem? (i := 514) (by decide +kernel)) rfl
theorem w_fl_6_165 : Cond.fieldLink (xON 6) 165 (xCN 6) (xFd 6 22).1 (xFd 6 22).2.1 ∈ xgw := xin (List.mem_of_getElem? (i := 515) (by decide +kernel)) rfl
theorem w_fl_6_168 : Cond.fieldLink (xON 6) 168 (xCN 6) (xFd 6 23).1 (xFd 6 23).2.1 ∈ xgw := xin (List.mem_of_getElem? (i := 516) (by decide +kernel)) rfl
theorem w_fl_6_45 : Cond.fieldLink (xON 6) 45 (xCN 6) (xFd 6 24).1 (xFd 6 24).2.1 ∈ xgw := xin (List.mem_of_getElem? (i := 517) (by decide +kernel)) rfl
theorem w_fl_6_84 : Cond.fieldLink (xON 6) 84 (xCN 6) (xFd 6 25).1 (xFd 6 25).2.1 ∈ xgw := xin (List.mem_of_getElem? (i := 518) (by decide +kernel)) rfl
theorem w_fl_6_99 : Cond.fieldLink (xON 6) 99 (xCN 6) (xFd 6 26).1 (xFd 6 26).2.1 ∈ xgw := xin (List.mem_of_getElem? (i := 519) (by decide +kernel)) rfl
theorem w_fl_6_48 : Cond.fieldLink (xON 6) 48 (xCN 6) (xFd 6 27).1 (xFd 6 27).2.1 ∈ xgw := xin (List.mem_of_getElem? (i := 520) (by decide +kernel)) rfl
theorem w_fl_6_87 : Cond.fieldLink (xON 6) 87 (xCN 6) (xFd 6 28).1 (xFd 6 28).2.1 ∈ xgw := xin (List.mem_of_getElem? (i := 521) (by decide +kernel)) rfl
theorem w_fl_6_90 : Cond.fieldLink (xON 6) 90 (xCN 6) (xFd 6 29).1 (xFd 6 29).2.1 ∈ xgw := xin (List.mem_of_getElem? (i := 522) (by decide +kernel)) rfl
theorem w_fl_6_93 : Cond.fieldLink (xON 6) 93 (xCN 6) (xFd 6 30).1 (xFd 6 30).2.1 ∈ xgw := xin (List.mem_of_getElem? (i := 523) (by decide +kernel)) rfl
theorem w_fl_6_96 : Cond.fieldLink (xON 6) 96 (xCN 6) (xFd 6 31).1 (xFd 6 31).2.1 ∈ xgw := xin (List.mem_of_getElem? (i := 524) (by decide +kernel)) rfl
theorem w_fl_6_130 : Cond.fieldLink (xON 6) 130 (xCN 6) (xFd 6 32).1 (xFd 6 32).2.1 ∈ xgw := xin (List.mem_of_getElem? (i := 525) (by decide +kernel)) rfl
theorem w_fl_6_134 : Cond.fieldLink (xON 6) 134 (xCN 6) (xFd 6 33).1 (xFd 6 33).2.1 ∈ xgw := xin (List.mem_of_getElem? (i := 526) (by decide +kernel)) rfl
theorem w_ib_0 : Cond.instantiable (xCN 0) (xNF 0) ∈ xgw := xin (List.mem_of_getElem? (i := 49) (by decide +kernel)) rfl
theorem w_ly_0_0 : u_lay (xCN 0) (xT 0) 0 ∈ xgw := xin (List.mem_of_getElem? (i := 220) (by decide +kernel)) rfl
theorem w_ly_0_1 : u_lay (xCN 0) (xT 0) 1 ∈ xgw := xin (List.mem_of_getElem? (i := 222) (by decide +kernel)) rfl
theorem w_ib_1 : Cond.instantiable (xCN 1) (xNF 1) ∈ xgw := xin (List.mem_of_getElem? (i := 74) (by decide +kernel)) rfl
theorem w_ly_1_0 : u_lay (xCN 1) (xT 1) 0 ∈ xgw := xin (List.mem_of_getElem? (i := 187) (by decide +kernel)) rfl
theorem w_ly_1_1 : u_lay (xCN 1) (xT 1) 1 ∈ xgw := xin (List.mem_of_getElem? (i := 189) (by decide +kernel)) rfl
theorem w_ly_1_2 : u_lay (xCN 1) (xT 1) 2 ∈ xgw := xin (List.mem_of_getElem? (i := 191) (by decide +kernel)) rfl
theorem w_ly_1_3 : u_lay (xCN 1) (xT 1) 3 ∈ xgw := xin (List.mem_of_getElem? (i := 193) (by decide +kernel)) rfl
theorem w_ly_1_4 : u_lay (xCN 1) (xT 1) 4 ∈ xgw := xin (List.mem_of_getElem? (i := 195) (by decide +kernel)) rfl
theorem w_ly_1_5 : u_lay (xCN 1) (xT 1) 5 ∈ xgw := xin (List.mem_of_getElem? (i := 197) (by decide +kernel)) rfl
theorem w_ly_1_6 : u_lay (xCN 1) (xT 1) 6 ∈ xgw := xin (List.mem_of_getElem? (i := 199) (by decide +kernel)) rfl
theorem w_ly_1_7 : u_lay (xCN 1) (xT 1) 7 ∈ xgw := xin (List.mem_of_getElem? (i := 201) (by decide +kernel)) rfl
theorem w_ly_1_8 : u_lay (xCN 1) (xT 1) 8 ∈ xgw := xin (List.mem_of_getElem? (i := 203) (by decide +kernel)) rfl
theorem w_ly_1_9 : u_lay (xCN 1) (xT 1) 9 ∈ xgw := xin (List.mem_of_getElem? (i := 205) (by decide +kernel)) rfl
theorem w_ly_1_10 : u_lay (xCN 1) (xT 1) 10 ∈ xgw := xin (List.mem_of_getElem? (i := 207) (by decide +kernel)) rfl
theorem w_ly_1_11 : u_lay (xCN 1) (xT 1) 11 ∈ xgw := xin (List.mem_of_getElem? (i := 209) (by decide +kernel)) rfl
theorem w_ly_1_12 : u_lay (xCN 1) (xT 1) 12 ∈ xgw := xin (List.mem_of_getElem? (i := 211) (by decide +kernel)) rfl
theorem w_ly_1_13 : u_lay (xCN 1) (xT 1) 13 ∈ xgw := xin (List.mem_of_getElem? (i := 213) (by decide +kernel)) rfl
theorem w_ly_1_14 : u_lay (xCN 1) (xT 1) 14 ∈ xgw := xin (List.mem_of_getElem? (i := 215) (by decide +kernel)) rfl
theorem w_ib_2 : Cond.instantiable (xCN 2) (xNF 2) ∈ xgw := xin (List.mem_of_getElem? (i := 80) (by decide +kernel)) rfl
theorem w_ly_2_0 : u_lay (xCN 2) (xT 2) 0 ∈ xgw := xin (List.mem_of_getElem? (i := 90) (by decide +kernel)) rfl
theorem w_ly_2_1 : u_lay (xCN 2) (xT 2) 1 ∈ xgw := xin (List.mem_of_getElem? (i := 92) (by decide +kernel)) rfl
theorem w_ly_2_2 : u_lay (xCN 2) (xT 2) 2 ∈ xgw := xin (List.mem_of_getElem? (i := 94) (by decide +kernel)) rfl
theorem w_ib_3 : Cond.instantiable (xCN 3) (xNF 3) ∈ xgw := xin (List.mem_of_getElem? (i := 98) (by decide +kernel)) rfl
theorem w_ly_3_0 : u_lay (xCN 3) (xT 3) 0 ∈ xgw := xin (List.mem_of_getElem? (i := 121) (by decide +kernel)) rfl
theorem w_ly_3_1 : u_lay (xCN 3) (xT 3) 1 ∈ xgw := xin (List.mem_of_getElem? (i := 123) (by decide +kernel)) rfl
theorem w_ly_3_2 : u_lay (xCN 3) (xT 3) 2 ∈ xgw := xin (List.mem_of_getElem? (i := 125) (by decide +kernel)) rfl
theorem w_ly_3_3 : u_lay (xCN 3) (xT 3) 3 ∈ xgw := xin (List.mem_of_getElem? (i := 127) (by decide +kernel)) rfl
theorem w_ly_3_4 : u_lay (xCN 3) (xT 3) 4 ∈ xgw := xin (List.mem_of_getElem? (i := 129) (by decide +kernel)) rfl
theorem w_ly_3_5 : u_lay (xCN 3) (xT 3) 5 ∈ xgw := xin (List.mem_of_getElem? (i := 131) (by decide +kernel)) rfl
theorem w_ly_3_6 : u_lay (xCN 3) (xT 3) 6 ∈ xgw := xin (List.mem_of_getElem? (i := 133) (by decide +kernel)) rfl
theorem w_ly_3_7 : u_lay (xCN 3) (xT 3) 7 ∈ xgw := xin (List.mem_of_getElem? (i := 135) (by decide +kernel)) rfl
theorem w_ly_3_8 : u_lay (xCN 3) (xT 3) 8 ∈ xgw := xin (List.mem_of_getElem? (i := 137) (by decide +kernel)) rfl
theorem w_ly_3_9 : u_lay (xCN 3) (xT 3) 9 ∈ xgw := xin (List.mem_of_getElem? (i := 139) (by decide +kernel)) rfl
theorem w_ly_3_10 : u_lay (xCN 3) (xT 3) 10 ∈ xgw := xin (List.mem_of_getElem? (i := 141) (by decide +kernel)) rfl
theorem w_ly_3_11 : u_lay (xCN 3) (xT 3) 11 ∈ xgw := xin (List.mem_of_getElem? (i := 143) (by decide +kernel)) rfl
theorem w_ib_4 : Cond.instantiable (xCN 4) (xNF 4) ∈ xgw := xin (List.mem_of_getElem? (i := 148) (by decide +kernel)) rfl
theorem w_ly_4_0 : u_lay (xCN 4) (xT 4) 0 ∈ xgw := xin (List.mem_of_getElem? (i := 159) (by decide +kernel)) rfl
theorem w_ly_4_1 : u_lay (xCN 4) (xT 4) 1 ∈ xgw := xin (List.mem_of_getElem? (i := 161) (by decide +kernel)) rfl
theorem w_ly_4_2 : u_lay (xCN 4) (xT 4) 2 ∈ xgw := xin (List.mem_of_getElem? (i := 163) (by decide +kernel)) rfl
theorem w_ib_5 : Cond.instantiable (xCN 5) (xNF 5) ∈ xgw := xin (List.mem_of_getElem? (i := 57) (by decide +kernel)) rfl
theorem w_ly_5_0 : u_lay (xCN 5) (xT 5) 0 ∈ xgw := xin (List.mem_of_getElem? (i := 67) (by decide +kernel)) rfl
theorem w_ly_5_1 : u_lay (xCN 5) (xT 5) 1 ∈ xgw := xin (List.mem_of_getElem? (i := 69) (by decide +kernel)) rfl
theorem w_ib_6 : Cond.instantiable (xCN 6) (xNF 6) ∈ xgw := xin (List.mem_of_getElem? (i := 488) (by decide +kernel)) rfl
theorem w_ly_6_0 : u_lay (xCN 6) (xT 6) 0 ∈ xgw := xin (List.mem_of_getElem? (i := 527) (by decide +kernel)) rfl
theorem w_ly_6_1 : u_lay (xCN 6) (xT 6) 1 ∈ xgw := xin (List.mem_of_getElem? (i := 529) (by decide +kernel)) rfl
theorem w_ly_6_2 : u_lay (xCN 6) (xT 6) 2 ∈ xgw := xin (List.mem_of_getElem? (i := 531) (by decide +kernel)) rfl
theorem w_ly_6_3 : u_lay (xCN 6) (xT 6) 3 ∈ xgw := xin (List.mem_of_getElem? (i := 533) (by decide +kernel)) rfl
theorem w_ly_6_4 : u_lay (xCN 6) (xT 6) 4 ∈ xgw := xin (List.mem_of_getElem? (i := 535) (by decide +kernel)) rfl
theorem w_ly_6_5 : u_lay (xCN 6) (xT 6) 5 ∈ xgw := xin (List.mem_of_getElem? (i := 537) (by decide +kernel)) rfl
theorem w_ly_6_6 : u_lay (xCN 6) (xT 6) 6 ∈ xgw := xin (List.mem_of_getElem? (i := 539) (by decide +kernel)) rfl
theorem w_ly_6_7 : u_lay (xCN 6) (xT 6) 7 ∈ xgw := xin (List.mem_of_getElem? (i := 541) (by decide +kernel)) rfl
theorem w_ly_6_8 : u_lay (xCN 6) (xT 6) 8 ∈ xgw := xin (List.mem_of_getElem? (i := 543) (by decide +kernel)) rfl
theorem w_ly_6_9 : u_lay (xCN 6) (xT 6) 9 ∈ xgw := xin (List.mem_of_getElem? (i := 545) (by decide +kernel)) rfl
theorem w_ly_6_10 : u_lay (xCN 6) (xT 6) 10 ∈ xgw := xin (List.mem_of_getElem? (i := 547) (by decide +kernel)) rfl
theorem w_ly_6_11 : u_lay (xCN 6) (xT 6) 11 ∈ xgw := xin (List.mem_of_getElem? (i := 549) (by decide +kernel)) rfl
theorem w_ly_6_12 : u_lay (xCN 6) (xT 6) 12 ∈ xgw := xin (List.mem_of_getElem? (i := 551) (by decide +kernel)) rfl
theorem w_ly_6_13 : u_lay (xCN 6) (xT 6) 13 ∈ xgw := xin (List.mem_of_getElem? (i := 553) (by decide +kernel)) rfl
theorem w_ly_6_14 : u_lay (xCN 6) (xT 6) 14 ∈ xgw := xin (List.mem_of_getElem? (i := 555) (by decide +kernel)) rfl
theorem w_ly_6_15 : u_lay (xCN 6) (xT 6) 15 ∈ xgw := xin (List.mem_of_getElem? (i := 557) (by decide +kernel)) rfl
theorem w_ly_6_16 : u_lay (xCN 6) (xT 6) 16 ∈ xgw := xin (List.mem_of_getElem? (i := 559) (by decide +kernel)) rfl
theorem w_ly_6_17 : u_lay (xCN 6) (xT 6) 17 ∈ xgw := xin (List.mem_of_getElem? (i := 561) (by decide +kernel)) rfl
theorem w_ly_6_18 : u_lay (xCN 6) (xT 6) 18 ∈ xgw := xin (List.mem_of_getElem? (i := 563) (by decide +kernel)) rfl
theorem w_ly_6_19 : u_lay (xCN 6) (xT 6) 19 ∈ xgw := xin (List.mem_of_getElem? (i := 565) (by decide +kernel)) rfl
theorem w_ly_6_20 : u_lay (xCN 6) (xT 6) 20 ∈ xgw := xin (List.mem_of_getElem? (i := 567) (by decide +kernel)) rfl
theorem w_ly_6_21 : u_lay (xCN 6) (xT 6) 21 ∈ xgw := xin (List.mem_of_getElem? (i := 569) (by decide +kernel)) rfl
theorem w_ly_6_22 : u_lay (xCN 6) (xT 6) 22 ∈ xgw := xin (List.mem_of_getElem? (i := 571) (by decide +kernel)) rfl
theorem w_ly_6_23 : u_lay (xCN 6) (xT 6) 23 ∈ xgw := xin (List.mem_of_getElem? (i := 573) (by decide +kernel)) rfl
theorem w_ly_6_24 : u_lay (xCN 6) (xT 6) 24 ∈ xgw := xin (List.mem_of_getElem? (i := 575) (by decide +kernel)) rfl
theorem w_ly_6_25 : u_lay (xCN 6) (xT 6) 25 ∈ xgw := xin (List.mem_of_getElem? (i := 577) (by decide +kernel)) rfl
theorem w_ly_6_26 : u_lay (xCN 6) (xT 6) 26 ∈ xgw := xin (List.mem_of_getElem? (i := 579) (by decide +kernel)) rfl
theorem w_ly_6_27 : u_lay (xCN 6) (xT 6) 27 ∈ xgw := xin (List.mem_of_getElem? (i := 581) (by decide +kernel)) rfl
theorem w_ly_6_28 : u_lay (xCN 6) (xT 6) 28 ∈ xgw := xin (List.mem_of_getElem? (i := 583) (by decide +kernel)) rfl
theorem w_ly_6_29 : u_lay (xCN 6) (xT 6) 29 ∈ xgw := xin (List.mem_of_getElem? (i := 585) (by decide +kernel)) rfl
theorem w_ly_6_30 : u_lay (xCN 6) (xT 6) 30 ∈ xgw := xin (List.mem_of_getElem? (i := 587) (by decide +kernel)) rfl
theorem w_ly_6_31 : u_lay (xCN 6) (xT 6) 31 ∈ xgw := xin (List.mem_of_getElem? (i := 589) (by decide +kernel)) rfl
theorem w_ly_6_32 : u_lay (xCN 6) (xT 6) 32 ∈ xgw := xin (List.mem_of_getElem? (i := 591) (by decide +kernel)) rfl
theorem w_ly_6_33 : u_lay (xCN 6) (xT 6) 33 ∈ xgw := xin (List.mem_of_getElem? (i := 593) (by decide +kernel)) rfl
theorem w_cl_0_7 : Cond.classLink (xON 0) 7 (xCN 5) ∈ xgw := xin (List.mem_of_getElem? (i := 56) (by decide +kernel)) rfl
theorem w_cl_0_16 : Cond.classLink (xON 0) 16 (xCN 1) ∈ xgw := xin (List.mem_of_getElem? (i := 73) (by decide +kernel)) rfl
theorem w_cl_1_9 : Cond.classLink (xON 1) 9 (xCN 2) ∈ xgw := xin (List.mem_of_getElem? (i := 79) (by decide +kernel)) rfl
theorem w_cl_1_18 : Cond.classLink (xON 1) 18 (xCN 3) ∈ xgw := xin (List.mem_of_getElem? (i := 97) (by decide +kernel)) rfl
theorem w_cl_1_25 : Cond.classLink (xON 1) 25 (xCN 4) ∈ xgw := xin (List.mem_of_getElem? (i := 146) (by decide +kernel)) rfl
theorem w_cl_7_7 : Cond.classLink (xON 7) 7 (xCN 0) ∈ xgw := xin (List.mem_of_getElem? (i := 48) (by decide +kernel)) rfl
theorem w_cl_7_10 : Cond.classLink (xON 7) 10 (xCN 6) ∈ xgw := xin (List.mem_of_getElem? (i := 487) (by decide +kernel)) rfl
theorem w_k_1_191 : Cond.constant (xON 1) 191 (1000000) ∈ xgw := xin (List.mem_of_getElem? (i := 354) (by decide +kernel)) rfl
theorem w_k_10_265 : Cond.constant (xON 10) 265 (1431655765) ∈ xgw := xin (List.mem_of_getElem? (i := 484) (by decide +kernel)) rfl
theorem w_k_10_266 : Cond.constant (xON 10) 266 (858993459) ∈ xgw := xin (List.mem_of_getElem? (i := 485) (by decide +kernel)) rfl
theorem w_k_10_267 : Cond.constant (xON 10) 267 (252645135) ∈ xgw := xin (List.mem_of_getElem? (i := 486) (by decide +kernel)) rfl
theorem w_j_6_137 : Cond.constantLong (xON 6) 137 (-32767) ∈ xgw := xin (List.mem_of_getElem? (i := 662) (by decide +kernel)) rfl
theorem w_j_6_139 : Cond.constantLong (xON 6) 139 (32767) ∈ xgw := xin (List.mem_of_getElem? (i := 663) (by decide +kernel)) rfl
theorem w_j_6_158 : Cond.constantLong (xON 6) 158 (-1000000) ∈ xgw := xin (List.mem_of_getElem? (i := 668) (by decide +kernel)) rfl
theorem w_j_6_160 : Cond.constantLong (xON 6) 160 (1000000) ∈ xgw := xin (List.mem_of_getElem? (i := 669) (by decide +kernel)) rfl
theorem w_j_6_184 : Cond.constantLong (xON 6) 184 (4) ∈ xgw := xin (List.mem_of_getElem? (i := 705) (by decide +kernel)) rfl
theorem w_j_6_186 : Cond.constantLong (xON 6) 186 (3) ∈ xgw := xin (List.mem_of_getElem? (i := 706) (by decide +kernel)) rfl
theorem w_j_6_188 : Cond.constantLong (xON 6) 188 (32) ∈ xgw := xin (List.mem_of_getElem? (i := 707) (by decide +kernel)) rfl
theorem w_j_6_194 : Cond.constantLong (xON 6) 194 (2) ∈ xgw := xin (List.mem_of_getElem? (i := 716) (by decide +kernel)) rfl
end
section
def xPM (o : Nat) (r : Nat × Nat × Nat × Nat × Nat) : Prop := match r with
  | (i, 0, k, n, ci) => 0 < k ∧ k < xnM ∧ ci < 7 ∧ Cond.methodLink (xON o) i (xY k) ∈ xgw ∧ Cond.instanceMethod (xY k) ∈ xgw ∧ Cond.selects (xCN ci) (xY k) (xY k) ∈ xgw ∧ Cond.initialized (xY k).cls ∈ xgw ∧ (parseMethodDescriptor (xY k).desc).map (fun d => d.parameters.length) = some n
  | (i, 1, k, n, _) => 0 < k ∧ k < xnM ∧ Cond.methodLink (xON o) i (xY k) ∈ xgw ∧ Cond.static (xY k) ∈ xgw ∧ Cond.initialized (xY k).cls ∈ xgw ∧ (parseMethodDescriptor (xY k).desc).map (fun d => d.parameters.length) = some n
  | (i, 2, k, n, _) => 0 < k ∧ k < xnM ∧ (xY k).name = "<init>" ∧ xRt k = none ∧ Cond.methodLink (xON o) i (xY k) ∈ xgw ∧ Cond.instanceMethod (xY k) ∈ xgw ∧ Cond.initialized (xY k).cls ∈ xgw ∧ (parseMethodDescriptor (xY k).desc).map (fun d => d.parameters.length) = some n
  | (i, 3, _, _, _) => Cond.methodLink (xON o) i Lib.objectInit ∈ xgw
  | (i, 4, _, _, _) => Cond.methodLink (xON o) i arraycopyName ∈ xgw
  | (i, 6, k, n, _) => 0 < k ∧ k < xnM ∧ (xY k).name = "<init>" ∧ xRt k = none ∧ (∃ host, (xON o, i, xY k, host) ∈ xNs) ∧ Cond.instanceMethod (xY k) ∈ xgw ∧ Cond.initialized (xY k).cls ∈ xgw ∧ (parseMethodDescriptor (xY k).desc).map (fun d => d.parameters.length) = some n
  | _ => False
theorem q_m_0_1 : xPM 0 (1, 3, 0, 0, 0) := w_ml_0_1
theorem q_m_0_9 : xPM 0 (9, 6, 2, 0, 5) := ⟨by decide, by decide, rfl, rfl, ⟨"PageRaster", by decide +kernel⟩, w_im_2, w_in_5, by decide +kernel⟩
theorem q_m_0_18 : xPM 0 (18, 2, 3, 0, 1) := ⟨by decide, by decide, rfl, rfl, w_ml_0_18, w_im_3, w_in_1, by decide +kernel⟩
theorem q_m_0_23 : xPM 0 (23, 0, 8, 1, 5) := ⟨by decide, by decide, by decide, w_ml_0_23, w_im_8, w_se_8, w_in_5, by decide +kernel⟩
theorem q_m_0_31 : xPM 0 (31, 0, 13, 2, 1) := ⟨by decide, by decide, by decide, w_ml_0_31, w_im_13, w_se_13, w_in_1, by decide +kernel⟩
theorem q_m_0_35 : xPM 0 (35, 0, 19, 1, 1) := ⟨by decide, by decide, by decide, w_ml_0_35, w_im_19, w_se_19, w_in_1, by decide +kernel⟩
theorem q_m_0_49 : xPM 0 (49, 0, 64, 2, 2) := ⟨by decide, by decide, by decide, w_ml_0_49, w_im_64, w_se_64, w_in_2, by decide +kernel⟩
theorem q_m_0_55 : xPM 0 (55, 0, 66, 1, 2) := ⟨by decide, by decide, by decide, w_ml_0_55, w_im_66, w_se_66, w_in_2, by decide +kernel⟩
theorem q_m_0_67 : xPM 0 (67, 0, 17, 0, 1) := ⟨by decide, by decide, by decide, w_ml_0_67, w_im_17, w_se_17, w_in_1, by decide +kernel⟩
theorem q_m_0_71 : xPM 0 (71, 0, 71, 0, 4) := ⟨by decide, by decide, by decide, w_ml_0_71, w_im_71, w_se_71, w_in_4, by decide +kernel⟩
theorem q_M_0 : xAll (xPM 0) (xLM.getD 0 []) := ⟨q_m_0_1, q_m_0_9, q_m_0_18, q_m_0_23, q_m_0_31, q_m_0_35, q_m_0_49, q_m_0_55, q_m_0_67, q_m_0_71, trivial⟩
theorem q_m_1_3 : xPM 1 (3, 3, 0, 0, 0) := w_ml_1_3
theorem q_m_1_11 : xPM 1 (11, 6, 4, 0, 2) := ⟨by decide, by decide, rfl, rfl, ⟨"PageRaster", by decide +kernel⟩, w_im_4, w_in_2, by decide +kernel⟩
theorem q_m_1_20 : xPM 1 (20, 6, 5, 0, 3) := ⟨by decide, by decide, rfl, rfl, ⟨"PageRaster", by decide +kernel⟩, w_im_5, w_in_3, by decide +kernel⟩
theorem q_m_1_44 : xPM 1 (44, 6, 6, 0, 4) := ⟨by decide, by decide, rfl, rfl, ⟨"PageRaster", by decide +kernel⟩, w_im_6, w_in_4, by decide +kernel⟩
theorem q_m_1_52 : xPM 1 (52, 0, 14, 2, 2) := ⟨by decide, by decide, by decide, w_ml_1_52, w_im_14, w_se_14, w_in_2, by decide +kernel⟩
theorem q_m_1_56 : xPM 1 (56, 0, 16, 0, 3) := ⟨by decide, by decide, by decide, w_ml_1_56, w_im_16, w_se_16, w_in_3, by decide +kernel⟩
theorem q_m_1_77 : xPM 1 (77, 0, 17, 0, 1) := ⟨by decide, by decide, by decide, w_ml_1_77, w_im_17, w_se_17, w_in_1, by decide +kernel⟩
theorem q_m_1_81 : xPM 1 (81, 0, 18, 2, 4) := ⟨by decide, by decide, by decide, w_ml_1_81, w_im_18, w_se_18, w_in_4, by decide +kernel⟩
theorem q_m_1_90 : xPM 1 (90, 0, 20, 1, 5) := ⟨by decide, by decide, by decide, w_ml_1_90, w_im_20, w_se_20, w_in_5, by decide +kernel⟩
theorem q_m_1_94 : xPM 1 (94, 1, 23, 1, 0) := ⟨by decide, by decide, w_ml_1_94, w_st_23, w_in_5, by decide +kernel⟩
theorem q_m_1_98 : xPM 1 (98, 0, 24, 2, 1) := ⟨by decide, by decide, by decide, w_ml_1_98, w_im_24, w_se_24, w_in_1, by decide +kernel⟩
theorem q_m_1_101 : xPM 1 (101, 1, 25, 1, 0) := ⟨by decide, by decide, w_ml_1_101, w_st_25, w_in_5, by decide +kernel⟩
theorem q_m_1_104 : xPM 1 (104, 0, 28, 3, 1) := ⟨by decide, by decide, by decide, w_ml_1_104, w_im_28, w_se_28, w_in_1, by decide +kernel⟩
theorem q_m_1_131 : xPM 1 (131, 0, 29, 2, 5) := ⟨by decide, by decide, by decide, w_ml_1_131, w_im_29, w_se_29, w_in_5, by decide +kernel⟩
theorem q_m_1_135 : xPM 1 (135, 0, 30, 2, 5) := ⟨by decide, by decide, by decide, w_ml_1_135, w_im_30, w_se_30, w_in_5, by decide +kernel⟩
theorem q_m_1_108 : xPM 1 (108, 1, 21, 1, 0) := ⟨by decide, by decide, w_ml_1_108, w_st_21, w_in_5, by decide +kernel⟩
theorem q_m_1_111 : xPM 1 (111, 0, 31, 2, 5) := ⟨by decide, by decide, by decide, w_ml_1_111, w_im_31, w_se_31, w_in_5, by decide +kernel⟩
theorem q_m_1_115 : xPM 1 (115, 0, 32, 2, 1) := ⟨by decide, by decide, by decide, w_ml_1_115, w_im_32, w_se_32, w_in_1, by decide +kernel⟩
theorem q_m_1_138 : xPM 1 (138, 0, 33, 1, 1) := ⟨by decide, by decide, by decide, w_ml_1_138, w_im_33, w_se_33, w_in_1, by decide +kernel⟩
theorem q_m_1_151 : xPM 1 (151, 1, 34, 1, 0) := ⟨by decide, by decide, w_ml_1_151, w_st_34, w_in_1, by decide +kernel⟩
theorem q_m_1_154 : xPM 1 (154, 0, 35, 1, 1) := ⟨by decide, by decide, by decide, w_ml_1_154, w_im_35, w_se_35, w_in_1, by decide +kernel⟩
theorem q_m_1_157 : xPM 1 (157, 1, 36, 1, 0) := ⟨by decide, by decide, w_ml_1_157, w_st_36, w_in_1, by decide +kernel⟩
theorem q_m_1_160 : xPM 1 (160, 0, 37, 1, 1) := ⟨by decide, by decide, by decide, w_ml_1_160, w_im_37, w_se_37, w_in_1, by decide +kernel⟩
theorem q_m_1_169 : xPM 1 (169, 0, 38, 0, 1) := ⟨by decide, by decide, by decide, w_ml_1_169, w_im_38, w_se_38, w_in_1, by decide +kernel⟩
theorem q_m_1_177 : xPM 1 (177, 0, 39, 2, 4) := ⟨by decide, by decide, by decide, w_ml_1_177, w_im_39, w_se_39, w_in_4, by decide +kernel⟩
theorem q_m_1_181 : xPM 1 (181, 0, 40, 2, 4) := ⟨by decide, by decide, by decide, w_ml_1_181, w_im_40, w_se_40, w_in_4, by decide +kernel⟩
theorem q_m_1_184 : xPM 1 (184, 1, 41, 2, 0) := ⟨by decide, by decide, w_ml_1_184, w_st_41, w_in_1, by decide +kernel⟩
theorem q_m_1_173 : xPM 1 (173, 0, 42, 3, 1) := ⟨by decide, by decide, by decide, w_ml_1_173, w_im_42, w_se_42, w_in_1, by decide +kernel⟩
theorem q_m_1_166 : xPM 1 (166, 1, 43, 1, 0) := ⟨by decide, by decide, w_ml_1_166, w_st_43, w_in_1, by decide +kernel⟩
theorem q_m_1_141 : xPM 1 (141, 0, 44, 1, 1) := ⟨by decide, by decide, by decide, w_ml_1_141, w_im_44, w_se_44, w_in_1, by decide +kernel⟩
theorem q_m_1_192 : xPM 1 (192, 0, 45, 1, 4) := ⟨by decide, by decide, by decide, w_ml_1_192, w_im_45, w_se_45, w_in_4, by decide +kernel⟩
theorem q_m_1_118 : xPM 1 (118, 1, 46, 2, 0) := ⟨by decide, by decide, w_ml_1_118, w_st_46, w_in_9, by decide +kernel⟩
theorem q_m_1_196 : xPM 1 (196, 4, 0, 0, 0) := w_ml_1_196
theorem q_m_1_145 : xPM 1 (145, 0, 47, 1, 1) := ⟨by decide, by decide, by decide, w_ml_1_145, w_im_47, w_se_47, w_in_1, by decide +kernel⟩
theorem q_m_1_205 : xPM 1 (205, 0, 48, 2, 3) := ⟨by decide, by decide, by decide, w_ml_1_205, w_im_48, w_se_48, w_in_3, by decide +kernel⟩
theorem q_m_1_208 : xPM 1 (208, 0, 51, 2, 3) := ⟨by decide, by decide, by decide, w_ml_1_208, w_im_51, w_se_51, w_in_3, by decide +kernel⟩
theorem q_m_1_223 : xPM 1 (223, 0, 52, 2, 1) := ⟨by decide, by decide, by decide, w_ml_1_223, w_im_52, w_se_52, w_in_1, by decide +kernel⟩
theorem q_m_1_229 : xPM 1 (229, 1, 53, 3, 0) := ⟨by decide, by decide, w_ml_1_229, w_st_53, w_in_1, by decide +kernel⟩
theorem q_m_1_233 : xPM 1 (233, 1, 54, 2, 0) := ⟨by decide, by decide, w_ml_1_233, w_st_54, w_in_9, by decide +kernel⟩
theorem q_m_1_148 : xPM 1 (148, 0, 55, 1, 1) := ⟨by decide, by decide, by decide, w_ml_1_148, w_im_55, w_se_55, w_in_1, by decide +kernel⟩
theorem q_m_1_226 : xPM 1 (226, 0, 56, 1, 1) := ⟨by decide, by decide, by decide, w_ml_1_226, w_im_56, w_se_56, w_in_1, by decide +kernel⟩
theorem q_m_1_236 : xPM 1 (236, 0, 49, 0, 3) := ⟨by decide, by decide, by decide, w_ml_1_236, w_im_49, w_se_49, w_in_3, by decide +kernel⟩
theorem q_m_1_245 : xPM 1 (245, 0, 57, 3, 3) := ⟨by decide, by decide, by decide, w_ml_1_245, w_im_57, w_se_57, w_in_3, by decide +kernel⟩
theorem q_m_1_252 : xPM 1 (252, 0, 59, 3, 2) := ⟨by decide, by decide, by decide, w_ml_1_252, w_im_59, w_se_59, w_in_2, by decide +kernel⟩
theorem q_m_1_123 : xPM 1 (123, 0, 60, 0, 1) := ⟨by decide, by decide, by decide, w_ml_1_123, w_im_60, w_se_60, w_in_1, by decide +kernel⟩
theorem q_M_1 : xAll (xPM 1) (xLM.getD 1 []) := ⟨q_m_1_3, q_m_1_11, q_m_1_20, q_m_1_44, q_m_1_52, q_m_1_56, q_m_1_77, q_m_1_81, q_m_1_90, q_m_1_94, q_m_1_98, q_m_1_101, q_m_1_104, q_m_1_131, q_m_1_135, q_m_1_108, q_m_1_111, q_m_1_115, q_m_1_138, q_m_1_151, q_m_1_154, q_m_1_157, q_m_1_160, q_m_1_169, q_m_1_177, q_m_1_181, q_m_1_184, q_m_1_173, q_m_1_166, q_m_1_141, q_m_1_192, q_m_1_118, q_m_1_196, q_m_1_145, q_m_1_205, q_m_1_208, q_m_1_223, q_m_1_229, q_m_1_233, q_m_1_148, q_m_1_226, q_m_1_236, q_m_1_245, q_m_1_252, q_m_1_123, trivial⟩
theorem q_m_2_3 : xPM 2 (3, 3, 0, 0, 0) := w_ml_2_3
theorem q_m_2_22 : xPM 2 (22, 1, 15, 2, 0) := ⟨by decide, by decide, w_ml_2_22, w_st_15, w_in_8, by decide +kernel⟩
theorem q_M_2 : xAll (xPM 2) (xLM.getD 2 []) := ⟨q_m_2_3, q_m_2_22, trivial⟩
theorem q_m_3_3 : xPM 3 (3, 3, 0, 0, 0) := w_ml_3_3
theorem q_m_3_50 : xPM 3 (50, 0, 49, 0, 3) := ⟨by decide, by decide, by decide, w_ml_3_50, w_im_49, w_se_49, w_in_3, by decide +kernel⟩
theorem q_m_3_53 : xPM 3 (53, 0, 50, 2, 3) := ⟨by decide, by decide, by decide, w_ml_3_53, w_im_50, w_se_50, w_in_3, by decide +kernel⟩
theorem q_m_3_57 : xPM 3 (57, 1, 15, 2, 0) := ⟨by decide, by decide, w_ml_3_57, w_st_15, w_in_8, by decide +kernel⟩
theorem q_m_3_63 : xPM 3 (63, 0, 58, 4, 3) := ⟨by decide, by decide, by decide, w_ml_3_63, w_im_58, w_se_58, w_in_3, by decide +kernel⟩
theorem q_M_3 : xAll (xPM 3) (xLM.getD 3 []) := ⟨q_m_3_3, q_m_3_50, q_m_3_53, q_m_3_57, q_m_3_63, trivial⟩
theorem q_m_4_3 : xPM 4 (3, 3, 0, 0, 0) := w_ml_4_3
theorem q_m_4_18 : xPM 4 (18, 1, 15, 2, 0) := ⟨by decide, by decide, w_ml_4_18, w_st_15, w_in_8, by decide +kernel⟩
theorem q_m_4_28 : xPM 4 (28, 4, 0, 0, 0) := w_ml_4_28
theorem q_m_4_34 : xPM 4 (34, 1, 72, 1, 0) := ⟨by decide, by decide, w_ml_4_34, w_st_72, w_in_10, by decide +kernel⟩
theorem q_M_4 : xAll (xPM 4) (xLM.getD 4 []) := ⟨q_m_4_3, q_m_4_18, q_m_4_28, q_m_4_34, trivial⟩
theorem q_m_5_3 : xPM 5 (3, 3, 0, 0, 0) := w_ml_5_3
theorem q_m_5_15 : xPM 5 (15, 1, 9, 2, 0) := ⟨by decide, by decide, w_ml_5_15, w_st_9, w_in_5, by decide +kernel⟩
theorem q_m_5_23 : xPM 5 (23, 1, 21, 1, 0) := ⟨by decide, by decide, w_ml_5_23, w_st_21, w_in_5, by decide +kernel⟩
theorem q_m_5_27 : xPM 5 (27, 1, 22, 1, 0) := ⟨by decide, by decide, w_ml_5_27, w_st_22, w_in_5, by decide +kernel⟩
theorem q_m_5_30 : xPM 5 (30, 1, 23, 1, 0) := ⟨by decide, by decide, w_ml_5_30, w_st_23, w_in_5, by decide +kernel⟩
theorem q_m_5_33 : xPM 5 (33, 1, 26, 1, 0) := ⟨by decide, by decide, w_ml_5_33, w_st_26, w_in_5, by decide +kernel⟩
theorem q_m_5_36 : xPM 5 (36, 1, 27, 1, 0) := ⟨by decide, by decide, w_ml_5_36, w_st_27, w_in_5, by decide +kernel⟩
theorem q_M_5 : xAll (xPM 5) (xLM.getD 5 []) := ⟨q_m_5_3, q_m_5_15, q_m_5_23, q_m_5_27, q_m_5_30, q_m_5_33, q_m_5_36, trivial⟩
theorem q_m_6_1 : xPM 6 (1, 3, 0, 0, 0) := w_ml_6_1
theorem q_m_6_102 : xPM 6 (102, 0, 78, 1, 6) := ⟨by decide, by decide, by decide, w_ml_6_102, w_im_78, w_se_78, w_in_6, by decide +kernel⟩
theorem q_m_6_55 : xPM 6 (55, 1, 79, 1, 0) := ⟨by decide, by decide, w_ml_6_55, w_st_79, w_in_6, by decide +kernel⟩
theorem q_m_6_110 : xPM 6 (110, 0, 80, 1, 6) := ⟨by decide, by decide, by decide, w_ml_6_110, w_im_80, w_se_80, w_in_6, by decide +kernel⟩
theorem q_m_6_59 : xPM 6 (59, 1, 81, 1, 0) := ⟨by decide, by decide, w_ml_6_59, w_st_81, w_in_6, by decide +kernel⟩
theorem q_m_6_106 : xPM 6 (106, 0, 82, 2, 6) := ⟨by decide, by decide, by decide, w_ml_6_106, w_im_82, w_se_82, w_in_6, by decide +kernel⟩
theorem q_m_6_113 : xPM 6 (113, 0, 83, 1, 6) := ⟨by decide, by decide, by decide, w_ml_6_113, w_im_83, w_se_83, w_in_6, by decide +kernel⟩
theorem q_m_6_62 : xPM 6 (62, 1, 84, 1, 0) := ⟨by decide, by decide, w_ml_6_62, w_st_84, w_in_6, by decide +kernel⟩
theorem q_m_6_116 : xPM 6 (116, 0, 85, 2, 6) := ⟨by decide, by decide, by decide, w_ml_6_116, w_im_85, w_se_85, w_in_6, by decide +kernel⟩
theorem q_m_6_120 : xPM 6 (120, 0, 86, 2, 6) := ⟨by decide, by decide, by decide, w_ml_6_120, w_im_86, w_se_86, w_in_6, by decide +kernel⟩
theorem q_m_6_123 : xPM 6 (123, 0, 87, 1, 6) := ⟨by decide, by decide, by decide, w_ml_6_123, w_im_87, w_se_87, w_in_6, by decide +kernel⟩
theorem q_m_6_141 : xPM 6 (141, 1, 88, 1, 0) := ⟨by decide, by decide, w_ml_6_141, w_st_88, w_in_6, by decide +kernel⟩
theorem q_m_6_144 : xPM 6 (144, 0, 89, 1, 6) := ⟨by decide, by decide, by decide, w_ml_6_144, w_im_89, w_se_89, w_in_6, by decide +kernel⟩
theorem q_m_6_150 : xPM 6 (150, 0, 90, 2, 6) := ⟨by decide, by decide, by decide, w_ml_6_150, w_im_90, w_se_90, w_in_6, by decide +kernel⟩
theorem q_m_6_154 : xPM 6 (154, 0, 91, 1, 6) := ⟨by decide, by decide, by decide, w_ml_6_154, w_im_91, w_se_91, w_in_6, by decide +kernel⟩
theorem q_m_6_126 : xPM 6 (126, 0, 92, 1, 6) := ⟨by decide, by decide, by decide, w_ml_6_126, w_im_92, w_se_92, w_in_6, by decide +kernel⟩
theorem q_m_6_200 : xPM 6 (200, 0, 93, 0, 6) := ⟨by decide, by decide, by decide, w_ml_6_200, w_im_93, w_se_93, w_in_6, by decide +kernel⟩
theorem q_m_6_203 : xPM 6 (203, 0, 94, 0, 6) := ⟨by decide, by decide, by decide, w_ml_6_203, w_im_94, w_se_94, w_in_6, by decide +kernel⟩
theorem q_m_6_206 : xPM 6 (206, 0, 95, 2, 6) := ⟨by decide, by decide, by decide, w_ml_6_206, w_im_95, w_se_95, w_in_6, by decide +kernel⟩
theorem q_m_6_181 : xPM 6 (181, 0, 96, 0, 6) := ⟨by decide, by decide, by decide, w_ml_6_181, w_im_96, w_se_96, w_in_6, by decide +kernel⟩
theorem q_m_6_177 : xPM 6 (177, 0, 97, 3, 6) := ⟨by decide, by decide, by decide, w_ml_6_177, w_im_97, w_se_97, w_in_6, by decide +kernel⟩
theorem q_m_6_209 : xPM 6 (209, 0, 98, 2, 6) := ⟨by decide, by decide, by decide, w_ml_6_209, w_im_98, w_se_98, w_in_6, by decide +kernel⟩
theorem q_m_6_212 : xPM 6 (212, 0, 99, 0, 6) := ⟨by decide, by decide, by decide, w_ml_6_212, w_im_99, w_se_99, w_in_6, by decide +kernel⟩
theorem q_m_6_190 : xPM 6 (190, 1, 100, 5, 0) := ⟨by decide, by decide, w_ml_6_190, w_st_100, w_in_6, by decide +kernel⟩
theorem q_m_6_215 : xPM 6 (215, 0, 101, 1, 6) := ⟨by decide, by decide, by decide, w_ml_6_215, w_im_101, w_se_101, w_in_6, by decide +kernel⟩
theorem q_m_6_196 : xPM 6 (196, 0, 102, 3, 6) := ⟨by decide, by decide, by decide, w_ml_6_196, w_im_102, w_se_102, w_in_6, by decide +kernel⟩
theorem q_M_6 : xAll (xPM 6) (xLM.getD 6 []) := ⟨q_m_6_1, q_m_6_102, q_m_6_55, q_m_6_110, q_m_6_59, q_m_6_106, q_m_6_113, q_m_6_62, q_m_6_116, q_m_6_120, q_m_6_123, q_m_6_141, q_m_6_144, q_m_6_150, q_m_6_154, q_m_6_126, q_m_6_200, q_m_6_203, q_m_6_206, q_m_6_181, q_m_6_177, q_m_6_209, q_m_6_212, q_m_6_190, q_m_6_215, q_m_6_196, trivial⟩
theorem q_m_7_9 : xPM 7 (9, 2, 1, 0, 0) := ⟨by decide, by decide, rfl, rfl, w_ml_7_9, w_im_1, w_in_0, by decide +kernel⟩
theorem q_m_7_13 : xPM 7 (13, 0, 7, 1, 0) := ⟨by decide, by decide, by decide, w_ml_7_13, w_im_7, w_se_7, w_in_0, by decide +kernel⟩
theorem q_m_7_18 : xPM 7 (18, 0, 10, 0, 0) := ⟨by decide, by decide, by decide, w_ml_7_18, w_im_10, w_se_10, w_in_0, by decide +kernel⟩
theorem q_m_7_23 : xPM 7 (23, 0, 11, 0, 0) := ⟨by decide, by decide, by decide, w_ml_7_23, w_im_11, w_se_11, w_in_0, by decide +kernel⟩
theorem q_m_7_27 : xPM 7 (27, 0, 12, 2, 0) := ⟨by decide, by decide, by decide, w_ml_7_27, w_im_12, w_se_12, w_in_0, by decide +kernel⟩
theorem q_m_7_32 : xPM 7 (32, 0, 61, 0, 0) := ⟨by decide, by decide, by decide, w_ml_7_32, w_im_61, w_se_61, w_in_0, by decide +kernel⟩
theorem q_m_7_36 : xPM 7 (36, 0, 62, 0, 0) := ⟨by decide, by decide, by decide, w_ml_7_36, w_im_62, w_se_62, w_in_0, by decide +kernel⟩
theorem q_m_7_40 : xPM 7 (40, 0, 63, 2, 0) := ⟨by decide, by decide, by decide, w_ml_7_40, w_im_63, w_se_63, w_in_0, by decide +kernel⟩
theorem q_m_7_44 : xPM 7 (44, 0, 65, 1, 0) := ⟨by decide, by decide, by decide, w_ml_7_44, w_im_65, w_se_65, w_in_0, by decide +kernel⟩
theorem q_m_7_48 : xPM 7 (48, 0, 67, 0, 0) := ⟨by decide, by decide, by decide, w_ml_7_48, w_im_67, w_se_67, w_in_0, by decide +kernel⟩
theorem q_m_7_52 : xPM 7 (52, 0, 68, 0, 0) := ⟨by decide, by decide, by decide, w_ml_7_52, w_im_68, w_se_68, w_in_0, by decide +kernel⟩
theorem q_m_7_56 : xPM 7 (56, 0, 69, 0, 0) := ⟨by decide, by decide, by decide, w_ml_7_56, w_im_69, w_se_69, w_in_0, by decide +kernel⟩
theorem q_m_7_60 : xPM 7 (60, 0, 70, 0, 0) := ⟨by decide, by decide, by decide, w_ml_7_60, w_im_70, w_se_70, w_in_0, by decide +kernel⟩
theorem q_m_7_12 : xPM 7 (12, 2, 73, 0, 6) := ⟨by decide, by decide, rfl, rfl, w_ml_7_12, w_im_73, w_in_6, by decide +kernel⟩
theorem q_m_7_17 : xPM 7 (17, 0, 74, 1, 6) := ⟨by decide, by decide, by decide, w_ml_7_17, w_im_74, w_se_74, w_in_6, by decide +kernel⟩
theorem q_m_7_22 : xPM 7 (22, 0, 75, 0, 6) := ⟨by decide, by decide, by decide, w_ml_7_22, w_im_75, w_se_75, w_in_6, by decide +kernel⟩
theorem q_m_7_26 : xPM 7 (26, 0, 76, 0, 6) := ⟨by decide, by decide, by decide, w_ml_7_26, w_im_76, w_se_76, w_in_6, by decide +kernel⟩
theorem q_m_7_31 : xPM 7 (31, 0, 77, 2, 6) := ⟨by decide, by decide, by decide, w_ml_7_31, w_im_77, w_se_77, w_in_6, by decide +kernel⟩
theorem q_m_7_35 : xPM 7 (35, 0, 103, 0, 6) := ⟨by decide, by decide, by decide, w_ml_7_35, w_im_103, w_se_103, w_in_6, by decide +kernel⟩
theorem q_m_7_39 : xPM 7 (39, 0, 104, 0, 6) := ⟨by decide, by decide, by decide, w_ml_7_39, w_im_104, w_se_104, w_in_6, by decide +kernel⟩
theorem q_m_7_43 : xPM 7 (43, 0, 105, 2, 6) := ⟨by decide, by decide, by decide, w_ml_7_43, w_im_105, w_se_105, w_in_6, by decide +kernel⟩
theorem q_m_7_47 : xPM 7 (47, 0, 106, 1, 6) := ⟨by decide, by decide, by decide, w_ml_7_47, w_im_106, w_se_106, w_in_6, by decide +kernel⟩
theorem q_m_7_51 : xPM 7 (51, 0, 107, 0, 6) := ⟨by decide, by decide, by decide, w_ml_7_51, w_im_107, w_se_107, w_in_6, by decide +kernel⟩
theorem q_m_7_55 : xPM 7 (55, 0, 108, 0, 6) := ⟨by decide, by decide, by decide, w_ml_7_55, w_im_108, w_se_108, w_in_6, by decide +kernel⟩
theorem q_m_7_59 : xPM 7 (59, 0, 109, 0, 6) := ⟨by decide, by decide, by decide, w_ml_7_59, w_im_109, w_se_109, w_in_6, by decide +kernel⟩
theorem q_m_7_63 : xPM 7 (63, 0, 110, 0, 6) := ⟨by decide, by decide, by decide, w_ml_7_63, w_im_110, w_se_110, w_in_6, by decide +kernel⟩
theorem q_M_7 : xAll (xPM 7) (xLM.getD 7 []) := ⟨q_m_7_9, q_m_7_13, q_m_7_18, q_m_7_23, q_m_7_27, q_m_7_32, q_m_7_36, q_m_7_40, q_m_7_44, q_m_7_48, q_m_7_52, q_m_7_56, q_m_7_60, q_m_7_12, q_m_7_17, q_m_7_22, q_m_7_26, q_m_7_31, q_m_7_35, q_m_7_39, q_m_7_43, q_m_7_47, q_m_7_51, q_m_7_55, q_m_7_59, q_m_7_63, trivial⟩
theorem q_M_8 : xAll (xPM 8) (xLM.getD 8 []) := trivial
theorem q_M_9 : xAll (xPM 9) (xLM.getD 9 []) := trivial
theorem q_M_10 : xAll (xPM 10) (xLM.getD 10 []) := trivial
theorem q_M : ∀ o, xAll (xPM o) (xLM.getD o [])
  | 0 => q_M_0
  | 1 => q_M_1
  | 2 => q_M_2
  | 3 => q_M_3
  | 4 => q_M_4
  | 5 => q_M_5
  | 6 => q_M_6
  | 7 => q_M_7
  | 8 => q_M_8
  | 9 => q_M_9
  | 10 => q_M_10
  | o + 11 => by
    rw [show xLM.getD (o + 11) [] = [] from rfl]
    trivial
def xPF (o : Nat) (r : Nat × Nat × Nat) : Prop := r.2.1 < 7 ∧ r.2.2 < xNF r.2.1 ∧ Cond.fieldLink (xON o) r.1 (xCN r.2.1) (xFd r.2.1 r.2.2).1 (xFd r.2.1 r.2.2).2.1 ∈ xgw
theorem q_F_0 : xAll (xPF 0) (xLF.getD 0 []) := ⟨⟨by decide, by decide, w_fl_0_27⟩, ⟨by decide, by decide, w_fl_0_45⟩, ⟨by decide, by decide, w_fl_0_39⟩, ⟨by decide, by decide, w_fl_0_42⟩, ⟨by decide, by decide, w_fl_0_58⟩, ⟨by decide, by decide, w_fl_0_61⟩, ⟨by decide, by decide, w_fl_0_64⟩, ⟨by decide, by decide, w_fl_0_10⟩, ⟨by decide, by decide, w_fl_0_19⟩, trivial⟩
theorem q_F_1 : xAll (xPF 1) (xLF.getD 1 []) := ⟨⟨by decide, by decide, w_fl_1_87⟩, ⟨by decide, by decide, w_fl_1_82⟩, ⟨by decide, by decide, w_fl_1_242⟩, ⟨by decide, by decide, w_fl_1_239⟩, ⟨by decide, by decide, w_fl_1_163⟩, ⟨by decide, by decide, w_fl_1_127⟩, ⟨by decide, by decide, w_fl_1_211⟩, ⟨by decide, by decide, w_fl_1_214⟩, ⟨by decide, by decide, w_fl_1_217⟩, ⟨by decide, by decide, w_fl_1_220⟩, ⟨by decide, by decide, w_fl_1_188⟩, ⟨by decide, by decide, w_fl_1_249⟩, ⟨by decide, by decide, w_fl_1_202⟩, ⟨by decide, by decide, w_fl_1_12⟩, ⟨by decide, by decide, w_fl_1_21⟩, ⟨by decide, by decide, w_fl_1_27⟩, ⟨by decide, by decide, w_fl_1_31⟩, ⟨by decide, by decide, w_fl_1_35⟩, ⟨by decide, by decide, w_fl_1_38⟩, ⟨by decide, by decide, w_fl_1_41⟩, ⟨by decide, by decide, w_fl_1_59⟩, ⟨by decide, by decide, w_fl_1_49⟩, ⟨by decide, by decide, w_fl_1_62⟩, ⟨by decide, by decide, w_fl_1_65⟩, ⟨by decide, by decide, w_fl_1_45⟩, ⟨by decide, by decide, w_fl_1_68⟩, ⟨by decide, by decide, w_fl_1_71⟩, ⟨by decide, by decide, w_fl_1_74⟩, trivial⟩
theorem q_F_2 : xAll (xPF 2) (xLF.getD 2 []) := ⟨⟨by decide, by decide, w_fl_2_9⟩, ⟨by decide, by decide, w_fl_2_15⟩, ⟨by decide, by decide, w_fl_2_19⟩, trivial⟩
theorem q_F_3 : xAll (xPF 3) (xLF.getD 3 []) := ⟨⟨by decide, by decide, w_fl_3_9⟩, ⟨by decide, by decide, w_fl_3_15⟩, ⟨by decide, by decide, w_fl_3_18⟩, ⟨by decide, by decide, w_fl_3_21⟩, ⟨by decide, by decide, w_fl_3_24⟩, ⟨by decide, by decide, w_fl_3_27⟩, ⟨by decide, by decide, w_fl_3_31⟩, ⟨by decide, by decide, w_fl_3_34⟩, ⟨by decide, by decide, w_fl_3_38⟩, ⟨by decide, by decide, w_fl_3_44⟩, ⟨by decide, by decide, w_fl_3_41⟩, ⟨by decide, by decide, w_fl_3_47⟩, trivial⟩
theorem q_F_4 : xAll (xPF 4) (xLF.getD 4 []) := ⟨⟨by decide, by decide, w_fl_4_9⟩, ⟨by decide, by decide, w_fl_4_15⟩, ⟨by decide, by decide, w_fl_4_24⟩, trivial⟩
theorem q_F_5 : xAll (xPF 5) (xLF.getD 5 []) := ⟨⟨by decide, by decide, w_fl_5_9⟩, ⟨by decide, by decide, w_fl_5_19⟩, trivial⟩
theorem q_F_6 : xAll (xPF 6) (xLF.getD 6 []) := ⟨⟨by decide, by decide, w_fl_6_7⟩, ⟨by decide, by decide, w_fl_6_52⟩, ⟨by decide, by decide, w_fl_6_65⟩, ⟨by decide, by decide, w_fl_6_68⟩, ⟨by decide, by decide, w_fl_6_13⟩, ⟨by decide, by decide, w_fl_6_16⟩, ⟨by decide, by decide, w_fl_6_20⟩, ⟨by decide, by decide, w_fl_6_71⟩, ⟨by decide, by decide, w_fl_6_24⟩, ⟨by decide, by decide, w_fl_6_27⟩, ⟨by decide, by decide, w_fl_6_30⟩, ⟨by decide, by decide, w_fl_6_74⟩, ⟨by decide, by decide, w_fl_6_33⟩, ⟨by decide, by decide, w_fl_6_36⟩, ⟨by decide, by decide, w_fl_6_39⟩, ⟨by decide, by decide, w_fl_6_42⟩, ⟨by decide, by decide, w_fl_6_162⟩, ⟨by decide, by decide, w_fl_6_147⟩, ⟨by decide, by decide, w_fl_6_77⟩, ⟨by decide, by decide, w_fl_6_81⟩, ⟨by decide, by decide, w_fl_6_171⟩, ⟨by decide, by decide, w_fl_6_174⟩, ⟨by decide, by decide, w_fl_6_165⟩, ⟨by decide, by decide, w_fl_6_168⟩, ⟨by decide, by decide, w_fl_6_45⟩, ⟨by decide, by decide, w_fl_6_84⟩, ⟨by decide, by decide, w_fl_6_99⟩, ⟨by decide, by decide, w_fl_6_48⟩, ⟨by decide, by decide, w_fl_6_87⟩, ⟨by decide, by decide, w_fl_6_90⟩, ⟨by decide, by decide, w_fl_6_93⟩, ⟨by decide, by decide, w_fl_6_96⟩, ⟨by decide, by decide, w_fl_6_130⟩, ⟨by decide, by decide, w_fl_6_134⟩, trivial⟩
theorem q_F_7 : xAll (xPF 7) (xLF.getD 7 []) := trivial
theorem q_F_8 : xAll (xPF 8) (xLF.getD 8 []) := trivial
theorem q_F_9 : xAll (xPF 9) (xLF.getD 9 []) := trivial
theorem q_F_10 : xAll (xPF 10) (xLF.getD 10 []) := trivial
theorem q_F : ∀ o, xAll (xPF o) (xLF.getD o [])
  | 0 => q_F_0
  | 1 => q_F_1
  | 2 => q_F_2
  | 3 => q_F_3
  | 4 => q_F_4
  | 5 => q_F_5
  | 6 => q_F_6
  | 7 => q_F_7
  | 8 => q_F_8
  | 9 => q_F_9
  | 10 => q_F_10
  | o + 11 => by
    rw [show xLF.getD (o + 11) [] = [] from rfl]
    trivial
def xPC (o : Nat) (r : Nat × Nat × Nat) : Prop := r.2.1 < 7 ∧ r.2.2 = xNF r.2.1 ∧ Cond.classLink (xON o) r.1 (xCN r.2.1) ∈ xgw ∧ Cond.instantiable (xCN r.2.1) (xNF r.2.1) ∈ xgw ∧ Cond.initialized (xCN r.2.1) ∈ xgw
theorem q_C_0 : xAll (xPC 0) (xTC.getD 0 []) := ⟨⟨by decide, by decide, w_cl_0_7, w_ib_5, w_in_5⟩, ⟨by decide, by decide, w_cl_0_16, w_ib_1, w_in_1⟩, trivial⟩
theorem q_C_1 : xAll (xPC 1) (xTC.getD 1 []) := ⟨⟨by decide, by decide, w_cl_1_9, w_ib_2, w_in_2⟩, ⟨by decide, by decide, w_cl_1_18, w_ib_3, w_in_3⟩, ⟨by decide, by decide, w_cl_1_25, w_ib_4, w_in_4⟩, trivial⟩
theorem q_C_2 : xAll (xPC 2) (xTC.getD 2 []) := trivial
theorem q_C_3 : xAll (xPC 3) (xTC.getD 3 []) := trivial
theorem q_C_4 : xAll (xPC 4) (xTC.getD 4 []) := trivial
theorem q_C_5 : xAll (xPC 5) (xTC.getD 5 []) := trivial
theorem q_C_6 : xAll (xPC 6) (xTC.getD 6 []) := trivial
theorem q_C_7 : xAll (xPC 7) (xTC.getD 7 []) := ⟨⟨by decide, by decide, w_cl_7_7, w_ib_0, w_in_0⟩, ⟨by decide, by decide, w_cl_7_10, w_ib_6, w_in_6⟩, trivial⟩
theorem q_C_8 : xAll (xPC 8) (xTC.getD 8 []) := trivial
theorem q_C_9 : xAll (xPC 9) (xTC.getD 9 []) := trivial
theorem q_C_10 : xAll (xPC 10) (xTC.getD 10 []) := trivial
theorem q_C : ∀ o, xAll (xPC o) (xTC.getD o [])
  | 0 => q_C_0
  | 1 => q_C_1
  | 2 => q_C_2
  | 3 => q_C_3
  | 4 => q_C_4
  | 5 => q_C_5
  | 6 => q_C_6
  | 7 => q_C_7
  | 8 => q_C_8
  | 9 => q_C_9
  | 10 => q_C_10
  | o + 11 => by
    rw [show xTC.getD (o + 11) [] = [] from rfl]
    trivial
def xPK (o : Nat) (r : Nat × Int32) : Prop := Cond.constant (xON o) r.1 r.2 ∈ xgw
def xPJ (o : Nat) (r : Nat × Int64) : Prop := Cond.constantLong (xON o) r.1 r.2 ∈ xgw
theorem q_K_0 : xAll (xPK 0) (xLK.getD 0 []) := trivial
theorem q_K_1 : xAll (xPK 1) (xLK.getD 1 []) := ⟨w_k_1_191, trivial⟩
theorem q_K_2 : xAll (xPK 2) (xLK.getD 2 []) := trivial
theorem q_K_3 : xAll (xPK 3) (xLK.getD 3 []) := trivial
theorem q_K_4 : xAll (xPK 4) (xLK.getD 4 []) := trivial
theorem q_K_5 : xAll (xPK 5) (xLK.getD 5 []) := trivial
theorem q_K_6 : xAll (xPK 6) (xLK.getD 6 []) := trivial
theorem q_K_7 : xAll (xPK 7) (xLK.getD 7 []) := trivial
theorem q_K_8 : xAll (xPK 8) (xLK.getD 8 []) := trivial
theorem q_K_9 : xAll (xPK 9) (xLK.getD 9 []) := trivial
theorem q_K_10 : xAll (xPK 10) (xLK.getD 10 []) := ⟨w_k_10_265, w_k_10_266, w_k_10_267, trivial⟩
theorem q_K : ∀ o, xAll (xPK o) (xLK.getD o [])
  | 0 => q_K_0
  | 1 => q_K_1
  | 2 => q_K_2
  | 3 => q_K_3
  | 4 => q_K_4
  | 5 => q_K_5
  | 6 => q_K_6
  | 7 => q_K_7
  | 8 => q_K_8
  | 9 => q_K_9
  | 10 => q_K_10
  | o + 11 => by
    rw [show xLK.getD (o + 11) [] = [] from rfl]
    trivial
theorem q_J_0 : xAll (xPJ 0) (xLJ.getD 0 []) := trivial
theorem q_J_1 : xAll (xPJ 1) (xLJ.getD 1 []) := trivial
theorem q_J_2 : xAll (xPJ 2) (xLJ.getD 2 []) := trivial
theorem q_J_3 : xAll (xPJ 3) (xLJ.getD 3 []) := trivial
theorem q_J_4 : xAll (xPJ 4) (xLJ.getD 4 []) := trivial
theorem q_J_5 : xAll (xPJ 5) (xLJ.getD 5 []) := trivial
theorem q_J_6 : xAll (xPJ 6) (xLJ.getD 6 []) := ⟨w_j_6_137, w_j_6_139, w_j_6_158, w_j_6_160, w_j_6_184, w_j_6_186, w_j_6_188, w_j_6_194, trivial⟩
theorem q_J_7 : xAll (xPJ 7) (xLJ.getD 7 []) := trivial
theorem q_J_8 : xAll (xPJ 8) (xLJ.getD 8 []) := trivial
theorem q_J_9 : xAll (xPJ 9) (xLJ.getD 9 []) := trivial
theorem q_J_10 : xAll (xPJ 10) (xLJ.getD 10 []) := trivial
theorem q_J : ∀ o, xAll (xPJ o) (xLJ.getD o [])
  | 0 => q_J_0
  | 1 => q_J_1
  | 2 => q_J_2
  | 3 => q_J_3
  | 4 => q_J_4
  | 5 => q_J_5
  | 6 => q_J_6
  | 7 => q_J_7
  | 8 => q_J_8
  | 9 => q_J_9
  | 10 => q_J_10
  | o + 11 => by
    rw [show xLJ.getD (o + 11) [] = [] from rfl]
    trivial
theorem f_M0 {o i k n ci : Nat} (h : xlM o i = some (0, k, n, ci)) : 0 < k ∧ k < xnM ∧ ci < 7 ∧ Cond.methodLink (xON o) i (xY k) ∈ xgw ∧ Cond.instanceMethod (xY k) ∈ xgw ∧ Cond.selects (xCN ci) (xY k) (xY k) ∈ xgw ∧ Cond.initialized (xY k).cls ∈ xgw ∧ (parseMethodDescriptor (xY k).desc).map (fun d => d.parameters.length) = some n := xAll_mem (P := xPM o) (q_M o) (xfind_mem h)
theorem f_M1 {o i k n ci : Nat} (h : xlM o i = some (1, k, n, ci)) : 0 < k ∧ k < xnM ∧ Cond.methodLink (xON o) i (xY k) ∈ xgw ∧ Cond.static (xY k) ∈ xgw ∧ Cond.initialized (xY k).cls ∈ xgw ∧ (parseMethodDescriptor (xY k).desc).map (fun d => d.parameters.length) = some n := xAll_mem (P := xPM o) (q_M o) (xfind_mem h)
theorem f_M2 {o i k n ci : Nat} (h : xlM o i = some (2, k, n, ci)) : 0 < k ∧ k < xnM ∧ (xY k).name = "<init>" ∧ xRt k = none ∧ Cond.methodLink (xON o) i (xY k) ∈ xgw ∧ Cond.instanceMethod (xY k) ∈ xgw ∧ Cond.initialized (xY k).cls ∈ xgw ∧ (parseMethodDescriptor (xY k).desc).map (fun d => d.parameters.length) = some n := xAll_mem (P := xPM o) (q_M o) (xfind_mem h)
theorem f_M6 {o i k n ci : Nat} (h : xlM o i = some (6, k, n, ci)) : 0 < k ∧ k < xnM ∧ (xY k).name = "<init>" ∧ xRt k = none ∧ (∃ host, (xON o, i, xY k, host) ∈ xNs) ∧ Cond.instanceMethod (xY k) ∈ xgw ∧ Cond.initialized (xY k).cls ∈ xgw ∧ (parseMethodDescriptor (xY k).desc).map (fun d => d.parameters.length) = some n := xAll_mem (P := xPM o) (q_M o) (xfind_mem h)
theorem f_M3 {o i k n ci : Nat} (h : xlM o i = some (3, k, n, ci)) : Cond.methodLink (xON o) i Lib.objectInit ∈ xgw ∧ Cond.instanceMethod Lib.objectInit ∈ xgw ∧ Cond.code Lib.objectInit ⟨#[0xb1]⟩ 1 none ∈ xgw := ⟨xAll_mem (P := xPM o) (q_M o) (xfind_mem h), w_oi, w_oc⟩
theorem f_M4 {o i k n ci : Nat} (h : xlM o i = some (4, k, n, ci)) : Cond.methodLink (xON o) i arraycopyName ∈ xgw ∧ Cond.native arraycopyName ∈ xgw ∧ Cond.static arraycopyName ∈ xgw ∧ Cond.initialized "java/lang/System" ∈ xgw := ⟨xAll_mem (P := xPM o) (q_M o) (xfind_mem h), w_an, w_as, w_ai⟩
theorem f_M5 {o i k n ci : Nat} (h : xlM o i = some (5, k, n, ci)) : Cond.methodLink (xON o) i Lib.Math.max.name ∈ xgw ∧ Cond.static Lib.Math.max.name ∈ xgw ∧ Cond.initialized "java/lang/Math" ∈ xgw ∧ Cond.code Lib.Math.max.name Lib.Math.max.code 2 (some .int) ∈ xgw := False.elim (xAll_mem (P := xPM o) (q_M o) (xfind_mem h))
theorem f_F {o i ci k : Nat} (h : xlF o i = some (ci, k)) : ci < 7 ∧ k < xNF ci ∧ Cond.fieldLink (xON o) i (xCN ci) (xFd ci k).1 (xFd ci k).2.1 ∈ xgw := xAll_mem (P := xPF o) (q_F o) (xfind_mem h)
theorem f_C {o i ci n : Nat} (h : xlC o i = some (ci, n)) : ci < 7 ∧ n = xNF ci ∧ Cond.classLink (xON o) i (xCN ci) ∈ xgw ∧ Cond.instantiable (xCN ci) (xNF ci) ∈ xgw ∧ Cond.initialized (xCN ci) ∈ xgw := xAll_mem (P := xPC o) (q_C o) (xfind_mem h)
theorem f_K {o i : Nat} {v : Int32} (h : xlK o i = some v) : Cond.constant (xON o) i v ∈ xgw := xAll_mem (P := xPK o) (q_K o) (xfind_mem h)
theorem f_J {o i : Nat} {v : Int64} (h : xlJ o i = some v) : Cond.constantLong (xON o) i v ∈ xgw := xAll_mem (P := xPJ o) (q_J o) (xfind_mem h)
theorem f_A {o i : Nat} (h : xlA o i = true) : Cond.classLink (xON o) i xSTn ∈ xgw := by
  unfold xlA at h
  cases hq : xlC o i with
  | none => rw [hq] at h; cases h
  | some q =>
    obtain ⟨ci, n⟩ := q
    rw [hq] at h
    have e : ci = xST := by simpa using h
    subst e
    exact (f_C hq).2.2.1
theorem f_cl {ci : Nat} (h : ci < 7) : xCl[ci]? = some (xCN ci, xT ci, xNF ci) := by
  unfold xCl
  rw [List.getElem?_map, List.getElem?_range h]
  rfl
theorem q_l_0 : ∀ k, k < xNF 0 → u_lay (xCN 0) (xT 0) k ∈ xgw
  | 0, _ => w_ly_0_0
  | 1, _ => w_ly_0_1
  | k + 2, h => absurd h (by rw [show xNF 0 = 2 from rfl]; omega)
theorem q_l_1 : ∀ k, k < xNF 1 → u_lay (xCN 1) (xT 1) k ∈ xgw
  | 0, _ => w_ly_1_0
  | 1, _ => w_ly_1_1
  | 2, _ => w_ly_1_2
  | 3, _ => w_ly_1_3
  | 4, _ => w_ly_1_4
  | 5, _ => w_ly_1_5
  | 6, _ => w_ly_1_6
  | 7, _ => w_ly_1_7
  | 8, _ => w_ly_1_8
  | 9, _ => w_ly_1_9
  | 10, _ => w_ly_1_10
  | 11, _ => w_ly_1_11
  | 12, _ => w_ly_1_12
  | 13, _ => w_ly_1_13
  | 14, _ => w_ly_1_14
  | k + 15, h => absurd h (by rw [show xNF 1 = 15 from rfl]; omega)
theorem q_l_2 : ∀ k, k < xNF 2 → u_lay (xCN 2) (xT 2) k ∈ xgw
  | 0, _ => w_ly_2_0
  | 1, _ => w_ly_2_1
  | 2, _ => w_ly_2_2
  | k + 3, h => absurd h (by rw [show xNF 2 = 3 from rfl]; omega)
theorem q_l_3 : ∀ k, k < xNF 3 → u_lay (xCN 3) (xT 3) k ∈ xgw
  | 0, _ => w_ly_3_0
  | 1, _ => w_ly_3_1
  | 2, _ => w_ly_3_2
  | 3, _ => w_ly_3_3
  | 4, _ => w_ly_3_4
  | 5, _ => w_ly_3_5
  | 6, _ => w_ly_3_6
  | 7, _ => w_ly_3_7
  | 8, _ => w_ly_3_8
  | 9, _ => w_ly_3_9
  | 10, _ => w_ly_3_10
  | 11, _ => w_ly_3_11
  | k + 12, h => absurd h (by rw [show xNF 3 = 12 from rfl]; omega)
theorem q_l_4 : ∀ k, k < xNF 4 → u_lay (xCN 4) (xT 4) k ∈ xgw
  | 0, _ => w_ly_4_0
  | 1, _ => w_ly_4_1
  | 2, _ => w_ly_4_2
  | k + 3, h => absurd h (by rw [show xNF 4 = 3 from rfl]; omega)
theorem q_l_5 : ∀ k, k < xNF 5 → u_lay (xCN 5) (xT 5) k ∈ xgw
  | 0, _ => w_ly_5_0
  | 1, _ => w_ly_5_1
  | k + 2, h => absurd h (by rw [show xNF 5 = 2 from rfl]; omega)
theorem q_l_6 : ∀ k, k < xNF 6 → u_lay (xCN 6) (xT 6) k ∈ xgw
  | 0, _ => w_ly_6_0
  | 1, _ => w_ly_6_1
  | 2, _ => w_ly_6_2
  | 3, _ => w_ly_6_3
  | 4, _ => w_ly_6_4
  | 5, _ => w_ly_6_5
  | 6, _ => w_ly_6_6
  | 7, _ => w_ly_6_7
  | 8, _ => w_ly_6_8
  | 9, _ => w_ly_6_9
  | 10, _ => w_ly_6_10
  | 11, _ => w_ly_6_11
  | 12, _ => w_ly_6_12
  | 13, _ => w_ly_6_13
  | 14, _ => w_ly_6_14
  | 15, _ => w_ly_6_15
  | 16, _ => w_ly_6_16
  | 17, _ => w_ly_6_17
  | 18, _ => w_ly_6_18
  | 19, _ => w_ly_6_19
  | 20, _ => w_ly_6_20
  | 21, _ => w_ly_6_21
  | 22, _ => w_ly_6_22
  | 23, _ => w_ly_6_23
  | 24, _ => w_ly_6_24
  | 25, _ => w_ly_6_25
  | 26, _ => w_ly_6_26
  | 27, _ => w_ly_6_27
  | 28, _ => w_ly_6_28
  | 29, _ => w_ly_6_29
  | 30, _ => w_ly_6_30
  | 31, _ => w_ly_6_31
  | 32, _ => w_ly_6_32
  | 33, _ => w_ly_6_33
  | k + 34, h => absurd h (by rw [show xNF 6 = 34 from rfl]; omega)
theorem f_lay {ci : Nat} (h : ci < 7) : ∀ w ∈ u_ws (xCN ci) (xT ci) (xNF ci), w ∈ xgw := by
  intro w hw
  obtain ⟨k, hk, rfl⟩ := List.mem_map.mp hw
  have hk := List.mem_range.mp hk
  match ci, h, hk with
  | 0, _, hk => exact q_l_0 k hk
  | 1, _, hk => exact q_l_1 k hk
  | 2, _, hk => exact q_l_2 k hk
  | 3, _, hk => exact q_l_3 k hk
  | 4, _, hk => exact q_l_4 k hk
  | 5, _, hk => exact q_l_5 k hk
  | 6, _, hk => exact q_l_6 k hk
theorem f_ty {ci k : Nat} (h : ci < 7) (hk : k < xNF ci) : parseFieldDescriptor (xT ci k).2.2.1 = some (xty ci k) := by
  have H : ∀ ci, ci < 7 → ∀ k, k < xNF ci → (parseFieldDescriptor (xT ci k).2.2.1).isSome = true := by decide +kernel
  have h1 := H ci h k hk
  unfold xty
  cases hp : parseFieldDescriptor (xT ci k).2.2.1 with
  | none => rw [hp] at h1; cases h1
  | some t => rfl
theorem f_tk {ci k : Nat} (h : ci < 7) (hk : k < xNF ci) : (xFK ci k = 0 ∧ xty ci k = .int) ∨ (xFK ci k = 1 ∧ xty ci k = .boolean) ∨ (xFK ci k = 2 ∧ xty ci k = .long) ∨ (xFK ci k = 3 ∧ xref (xty ci k) = true) := by
  have H : ∀ ci, ci < 7 → ∀ k, k < xNF ci → ((xFK ci k = 0 ∧ xty ci k = .int) ∨ (xFK ci k = 1 ∧ xty ci k = .boolean) ∨ (xFK ci k = 2 ∧ xty ci k = .long) ∨ (xFK ci k = 3 ∧ xref (xty ci k) = true)) := by decide +kernel
  exact H ci h k hk
theorem f_nm {ci : Nat} (h : ci < 7) : ∀ a, a < xNF ci → ∀ b, b < xNF ci → a ≠ b → (xT ci a).2.1 ≠ (xT ci b).2.1 := by
  have H : ∀ ci, ci < 7 → ∀ a, a < xNF ci → ∀ b, b < xNF ci → a ≠ b → (xT ci a).2.1 ≠ (xT ci b).2.1 := by decide +kernel
  exact H ci h
theorem f_code {k : Nat} (h0 : 0 < k) (hk : k < xnM) : Cond.code (xY k) (xB k) (xnL k) (xRt k) ∈ xgw := by
  match k, h0, hk with
  | 1, _, _ => exact w_co_1
  | 2, _, _ => exact w_co_2
  | 3, _, _ => exact w_co_3
  | 4, _, _ => exact w_co_4
  | 5, _, _ => exact w_co_5
  | 6, _, _ => exact w_co_6
  | 7, _, _ => exact w_co_7
  | 8, _, _ => exact w_co_8
  | 9, _, _ => exact w_co_9
  | 10, _, _ => exact w_co_10
  | 11, _, _ => exact w_co_11
  | 12, _, _ => exact w_co_12
  | 13, _, _ => exact w_co_13
  | 14, _, _ => exact w_co_14
  | 15, _, _ => exact w_co_15
  | 16, _, _ => exact w_co_16
  | 17, _, _ => exact w_co_17
  | 18, _, _ => exact w_co_18
  | 19, _, _ => exact w_co_19
  | 20, _, _ => exact w_co_20
  | 21, _, _ => exact w_co_21
  | 22, _, _ => exact w_co_22
  | 23, _, _ => exact w_co_23
  | 24, _, _ => exact w_co_24
  | 25, _, _ => exact w_co_25
  | 26, _, _ => exact w_co_26
  | 27, _, _ => exact w_co_27
  | 28, _, _ => exact w_co_28
  | 29, _, _ => exact w_co_29
  | 30, _, _ => exact w_co_30
  | 31, _, _ => exact w_co_31
  | 32, _, _ => exact w_co_32
  | 33, _, _ => exact w_co_33
  | 34, _, _ => exact w_co_34
  | 35, _, _ => exact w_co_35
  | 36, _, _ => exact w_co_36
  | 37, _, _ => exact w_co_37
  | 38, _, _ => exact w_co_38
  | 39, _, _ => exact w_co_39
  | 40, _, _ => exact w_co_40
  | 41, _, _ => exact w_co_41
  | 42, _, _ => exact w_co_42
  | 43, _, _ => exact w_co_43
  | 44, _, _ => exact w_co_44
  | 45, _, _ => exact w_co_45
  | 46, _, _ => exact w_co_46
  | 47, _, _ => exact w_co_47
  | 48, _, _ => exact w_co_48
  | 49, _, _ => exact w_co_49
  | 50, _, _ => exact w_co_50
  | 51, _, _ => exact w_co_51
  | 52, _, _ => exact w_co_52
  | 53, _, _ => exact w_co_53
  | 54, _, _ => exact w_co_54
  | 55, _, _ => exact w_co_55
  | 56, _, _ => exact w_co_56
  | 57, _, _ => exact w_co_57
  | 58, _, _ => exact w_co_58
  | 59, _, _ => exact w_co_59
  | 60, _, _ => exact w_co_60
  | 61, _, _ => exact w_co_61
  | 62, _, _ => exact w_co_62
  | 63, _, _ => exact w_co_63
  | 64, _, _ => exact w_co_64
  | 65, _, _ => exact w_co_65
  | 66, _, _ => exact w_co_66
  | 67, _, _ => exact w_co_67
  | 68, _, _ => exact w_co_68
  | 69, _, _ => exact w_co_69
  | 70, _, _ => exact w_co_70
  | 71, _, _ => exact w_co_71
  | 72, _, _ => exact w_co_72
  | 73, _, _ => exact w_co_73
  | 74, _, _ => exact w_co_74
  | 75, _, _ => exact w_co_75
  | 76, _, _ => exact w_co_76
  | 77, _, _ => exact w_co_77
  | 78, _, _ => exact w_co_78
  | 79, _, _ => exact w_co_79
  | 80, _, _ => exact w_co_80
  | 81, _, _ => exact w_co_81
  | 82, _, _ => exact w_co_82
  | 83, _, _ => exact w_co_83
  | 84, _, _ => exact w_co_84
  | 85, _, _ => exact w_co_85
  | 86, _, _ => exact w_co_86
  | 87, _, _ => exact w_co_87
  | 88, _, _ => exact w_co_88
  | 89, _, _ => exact w_co_89
  | 90, _, _ => exact w_co_90
  | 91, _, _ => exact w_co_91
  | 92, _, _ => exact w_co_92
  | 93, _, _ => exact w_co_93
  | 94, _, _ => exact w_co_94
  | 95, _, _ => exact w_co_95
  | 96, _, _ => exact w_co_96
  | 97, _, _ => exact w_co_97
  | 98, _, _ => exact w_co_98
  | 99, _, _ => exact w_co_99
  | 100, _, _ => exact w_co_100
  | 101, _, _ => exact w_co_101
  | 102, _, _ => exact w_co_102
  | 103, _, _ => exact w_co_103
  | 104, _, _ => exact w_co_104
  | 105, _, _ => exact w_co_105
  | 106, _, _ => exact w_co_106
  | 107, _, _ => exact w_co_107
  | 108, _, _ => exact w_co_108
  | 109, _, _ => exact w_co_109
  | 110, _, _ => exact w_co_110
  | k + 111, _, hk => exact absurd hk (by rw [show xnM = 111 from rfl]; omega)
theorem f_cls {k : Nat} (hk : k < xnM) : (xY k).cls ≠ "java/lang/invoke/MethodHandle" ∧ (xY k).cls ≠ "java/lang/invoke/VarHandle" ∧ plainFor (xY k) = true ∧ xON (xO k) = (xY k).cls ∧ (∀ ci, xIni k = some ci → (xY k).name = "<init>" ∧ xCN ci = xON (xO k)) ∧ xnL k ≤ 21 := by
  have H : ∀ k, k < xnM → ((xY k).cls ≠ "java/lang/invoke/MethodHandle" ∧ (xY k).cls ≠ "java/lang/invoke/VarHandle" ∧ plainFor (xY k) = true ∧ xON (xO k) = (xY k).cls ∧ xnL k ≤ 21) := by decide +kernel
  obtain ⟨h1, h2, h3, h4, h6⟩ := H k hk
  refine ⟨h1, h2, h3, h4, fun ci hi => ?_, h6⟩
  unfold xIni at hi
  split at hi
  · next hn => cases hi; exact ⟨hn, rfl⟩
  · cases hi
theorem w_ns_0 : Cond.methodLinkNest "PageRaster" 9 ⟨"PageRaster$Text", "<init>", "()V"⟩ "PageRaster" ∈ lw_tbl := List.mem_of_getElem? (i := 58) (by decide +kernel)
theorem w_ns_1 : Cond.methodLinkNest "PageRaster$Drawing" 11 ⟨"PageRaster$Page", "<init>", "()V"⟩ "PageRaster" ∈ lw_tbl := List.mem_of_getElem? (i := 81) (by decide +kernel)
theorem w_ns_2 : Cond.methodLinkNest "PageRaster$Drawing" 20 ⟨"PageRaster$Path", "<init>", "()V"⟩ "PageRaster" ∈ lw_tbl := List.mem_of_getElem? (i := 99) (by decide +kernel)
theorem w_ns_3 : Cond.methodLinkNest "PageRaster$Drawing" 44 ⟨"PageRaster$State", "<init>", "()V"⟩ "PageRaster" ∈ lw_tbl := List.mem_of_getElem? (i := 149) (by decide +kernel)
theorem w_ns : ∀ q ∈ xNs, Cond.methodLinkNest q.1 q.2.1 q.2.2.1 q.2.2.2 ∈ lw_tbl := List.forall_mem_cons.mpr ⟨w_ns_0, List.forall_mem_cons.mpr ⟨w_ns_1, List.forall_mem_cons.mpr ⟨w_ns_2, List.forall_mem_cons.mpr ⟨w_ns_3, fun _ h => absurd h List.not_mem_nil⟩⟩⟩⟩
theorem w_ao : Cond.arrayOver (.object xSTn) ∈ lw_tbl := List.mem_of_getElem? (i := 147) (by decide +kernel)
end
section
abbrev xSh : Type := List (Nat × Nat)
abbrev xHp : Type := xSh × (Nat → Nat → Int32) × (Nat → Nat → Int64) × (Nat → Nat → Option Nat)
abbrev xLs : Type := List (Option Value)
abbrev xCf : Type := Nat × xLs × List Value × xHp
abbrev xRs : Type := xCf ⊕ ((Nat × List Value × xCf) ⊕ Option Value)
abbrev xS : Nat := 1000000
def xu {α : Type} (f : Nat → Nat → α) (a k : Nat) (v : α) : Nat → Nat → α := fun x => if x = a then va_up (f a) k v else f x
def xz {α : Type} (f : Nat → Nat → α) (a : Nat) (v : α) : Nat → Nat → α := fun x => if x = a then fun _ => v else f x
abbrev xgo (pc : Nat) (ls : xLs) (st : List Value) (h : xHp) : Option xRs := some (.inl (pc, ls, st, h))
def xnl (o : Option Value) : Bool := match o with
  | some (.long _) => false
  | some (.double _) => false
  | _ => true
def xok (ls : xLs) (k : Nat) : Bool := decide (k < ls.length) && (k == 0 || xnl (ls.getD (k - 1) none))
def xldI (k pc : Nat) (ls : xLs) (st : List Value) (h : xHp) : Option xRs := match ls[k]? with
  | some (some (.int x)) => xgo pc ls (.int x :: st) h
  | _ => none
def xldL (k pc : Nat) (ls : xLs) (st : List Value) (h : xHp) : Option xRs := match ls[k]? with
  | some (some (.long x)) => xgo pc ls (.long x :: st) h
  | _ => none
def xldA (k pc : Nat) (ls : xLs) (st : List Value) (h : xHp) : Option xRs := match ls[k]? with
  | some (some (.ref x)) => xgo pc ls (.ref x :: st) h
  | _ => none
def xstI (k pc : Nat) (ls : xLs) (st : List Value) (h : xHp) : Option xRs := match st with
  | .int x :: st => if xok ls k = true then xgo pc (ls.set k (some (.int x))) st h else none
  | _ => none
def xstL (k pc : Nat) (ls : xLs) (st : List Value) (h : xHp) : Option xRs := match st with
  | .long x :: st => if xok ls k = true ∧ k + 1 < ls.length then xgo pc ((ls.set k (some (.long x))).set (k + 1) none) st h else none
  | _ => none
def xstA (k pc : Nat) (ls : xLs) (st : List Value) (h : xHp) : Option xRs := match st with
  | .ref x :: st => if xok ls k = true then xgo pc (ls.set k (some (.ref x))) st h else none
  | _ => none
def xinc (k : Nat) (v : Int) (pc : Nat) (ls : xLs) (st : List Value) (h : xHp) : Option xRs := match ls[k]? with
  | some (some (.int x)) => if xok ls k = true then xgo pc (ls.set k (some (.int (x + Int32.ofInt v)))) st h else none
  | _ => none
def xI1 (f : Int32 → Int32) (pc : Nat) (ls : xLs) (st : List Value) (h : xHp) : Option xRs := match st with
  | .int x :: st => xgo pc ls (.int (f x) :: st) h
  | _ => none
def xIL (f : Int32 → Int64) (pc : Nat) (ls : xLs) (st : List Value) (h : xHp) : Option xRs := match st with
  | .int x :: st => xgo pc ls (.long (f x) :: st) h
  | _ => none
def xLI (f : Int64 → Int32) (pc : Nat) (ls : xLs) (st : List Value) (h : xHp) : Option xRs := match st with
  | .long x :: st => xgo pc ls (.int (f x) :: st) h
  | _ => none
def xI2 (f : Int32 → Int32 → Int32) (pc : Nat) (ls : xLs) (st : List Value) (h : xHp) : Option xRs := match st with
  | .int y :: .int x :: st => xgo pc ls (.int (f x y) :: st) h
  | _ => none
def xID (f : Int32 → Int32 → Int32) (pc : Nat) (ls : xLs) (st : List Value) (h : xHp) : Option xRs := match st with
  | .int y :: .int x :: st => if y = 0 then none else xgo pc ls (.int (f x y) :: st) h
  | _ => none
def xL2 (f : Int64 → Int64 → Int64) (pc : Nat) (ls : xLs) (st : List Value) (h : xHp) : Option xRs := match st with
  | .long y :: .long x :: st => xgo pc ls (.long (f x y) :: st) h
  | _ => none
def xLC (pc : Nat) (ls : xLs) (st : List Value) (h : xHp) : Option xRs := match st with
  | .long y :: .long x :: st => xgo pc ls (.int (lg_cmp x y) :: st) h
  | _ => none
def xLS (f : Int64 → Int32 → Int64) (pc : Nat) (ls : xLs) (st : List Value) (h : xHp) : Option xRs := match st with
  | .int y :: .long x :: st => xgo pc ls (.long (f x y) :: st) h
  | _ => none
def xdup (pc : Nat) (ls : xLs) (st : List Value) (h : xHp) : Option xRs := match st with
  | v :: st => if v.category = 1 then xgo pc ls (v :: v :: st) h else none
  | _ => none
def xdup2 (pc : Nat) (ls : xLs) (st : List Value) (h : xHp) : Option xRs := match st with
  | v :: w :: st => if v.category = 1 ∧ w.category = 1 then xgo pc ls (v :: w :: v :: w :: st) h else none
  | _ => none
def xj (pc : Nat) (off : Int) (ls : xLs) (st : List Value) (h : xHp) : Option xRs := if 0 ≤ (pc : Int) + off then xgo ((pc : Int) + off).toNat ls st h else none
def xcond (cd : ClassFile.Cond) (x y : Int32) : Bool := match cd with
  | .eq => decide (x = y)
  | .ne => decide (¬ x = y)
  | .lt => decide (x < y)
  | .ge => decide (y ≤ x)
  | .gt => decide (y < x)
  | .le => decide (x ≤ y)
def xif (cd : ClassFile.Cond) (x y : Int32) (off : Int) (pc : Nat) (ls : xLs) (st : List Value) (h : xHp) : Option xRs := if 0 ≤ (pc : Int) + off then (if xcond cd x y = true then xgo ((pc : Int) + off).toNat ls st h else xgo (pc + 3) ls st h) else none
def xif0 (cd : ClassFile.Cond) (off : Int) (pc : Nat) (ls : xLs) (st : List Value) (h : xHp) : Option xRs := match st with
  | .int x :: st => xif cd x 0 off pc ls st h
  | _ => none
def xif2 (cd : ClassFile.Cond) (off : Int) (pc : Nat) (ls : xLs) (st : List Value) (h : xHp) : Option xRs := match st with
  | .int y :: .int x :: st => xif cd x y off pc ls st h
  | _ => none
def xtab (dflt lo hi : Int) (offs : Array Int) (pc : Nat) (ls : xLs) (st : List Value) (h : xHp) : Option xRs := match st with
  | .int x :: st => if x.toInt < lo ∨ hi < x.toInt then xj pc dflt ls st h else (match offs[(x.toInt - lo).toNat]? with
    | some off => xj pc off ls st h
    | none => none)
  | _ => none
def xlook (dflt : Int) (ps : Array (Int × Int)) (pc : Nat) (ls : xLs) (st : List Value) (h : xHp) : Option xRs := match st with
  | .int x :: st => if (ps.toList.zip (ps.toList.drop 1)).all (fun (a, next) => a.1 < next.1) = true then xj pc (Op.lookupswitch.offset ps.toList dflt x.toInt) ls st h else none
  | _ => none
def xfv (h : xHp) (a k kd : Nat) : Value := match kd with
  | 0 => .int (h.2.1 a k)
  | 1 => .int (h.2.1 a k)
  | 2 => .long (h.2.2.1 a k)
  | _ => va_rf (h.2.2.2 a k)
def xgetf (q : Option (Nat × Nat)) (pc : Nat) (ls : xLs) (st : List Value) (h : xHp) : Option xRs := match q, st with
  | some (ci, k), .ref a :: st => (match h.1[a]? with
    | some t => if t.1 = ci + 4 ∧ k < t.2 then xgo pc ls (xfv h a k (xFK ci k) :: st) h else none
    | none => none)
  | _, _ => none
def xputv (kd k : Nat) (v : Value) (a : Nat) (h : xHp) : Option xHp := match kd, v with
  | 0, .int x => some (h.1, xu h.2.1 a k x, h.2.2)
  | 1, .int x => if x = 0 ∨ x = 1 then some (h.1, xu h.2.1 a k x, h.2.2) else none
  | 2, .long x => some (h.1, h.2.1, xu h.2.2.1 a k x, h.2.2.2)
  | 3, .ref r => some (h.1, h.2.1, h.2.2.1, xu h.2.2.2 a k (some r))
  | _, _ => none
def xputf (j : Nat) (q : Option (Nat × Nat)) (pc : Nat) (ls : xLs) (st : List Value) (h : xHp) : Option xRs := match q, st with
  | some (ci, k), v :: .ref a :: st => (match h.1[a]?, xputv (xFK ci k) k v a h with
    | some t, some h' => if t.1 = ci + 4 ∧ k < t.2 ∧ (xFn ci k = true → xIni j = some ci) then xgo pc ls st h' else none
    | _, _ => none)
  | _, _ => none
def xnew (tag n : Nat) (h : xHp) : xHp := (h.1 ++ [(tag, n)], xz h.2.1 h.1.length 0, xz h.2.2.1 h.1.length 0, xz h.2.2.2 h.1.length none)
def xnewc (q : Option (Nat × Nat)) (pc : Nat) (ls : xLs) (st : List Value) (h : xHp) : Option xRs := match q with
  | some (ci, n) => xgo pc ls (.ref h.1.length :: st) (xnew (ci + 4) n h)
  | none => none
def xnewa (tag : Nat) (pc : Nat) (ls : xLs) (st : List Value) (h : xHp) : Option xRs := match st with
  | .int n :: st => if n < 0 ∨ 100000 < n.toNatClampNeg then none else xgo pc ls (.ref h.1.length :: st) (xnew tag n.toNatClampNeg h)
  | _ => none
abbrev xScr : Type := Option (Nat × (Nat → Int32))
def xlen (scr : xScr) (pc : Nat) (ls : xLs) (st : List Value) (h : xHp) : Option xRs := match st with
  | .ref a :: st => (match h.1[a]? with
      | some t => if t.1 < 4 then xgo pc ls (.int (Int32.ofNat t.2) :: st) h else none
      | none => if a = xS then (match scr with
        | some q => xgo pc ls (.int (Int32.ofNat q.1) :: st) h
        | none => none) else none)
  | _ => none
def xIaload (scr : xScr) (pc : Nat) (ls : xLs) (st : List Value) (h : xHp) : Option xRs := match st with
  | .int i :: .ref a :: st => (match h.1[a]? with
      | some t => if t.1 = 0 ∧ ¬ (i < 0 ∨ t.2 ≤ i.toNatClampNeg) then xgo pc ls (.int (h.2.1 a i.toNatClampNeg) :: st) h else none
      | none => if a = xS then (match scr with
        | some q => if ¬ (i < 0 ∨ q.1 ≤ i.toNatClampNeg) then xgo pc ls (.int (q.2 i.toNatClampNeg) :: st) h else none
        | none => none) else none)
  | _ => none
def xBaload (pc : Nat) (ls : xLs) (st : List Value) (h : xHp) : Option xRs := match st with
  | .int i :: .ref a :: st => (match h.1[a]? with
      | some t => if t.1 = 1 ∧ ¬ (i < 0 ∨ t.2 ≤ i.toNatClampNeg) then xgo pc ls (.int (h.2.1 a i.toNatClampNeg) :: st) h else none
      | none => none)
  | _ => none
def xLaload (pc : Nat) (ls : xLs) (st : List Value) (h : xHp) : Option xRs := match st with
  | .int i :: .ref a :: st => (match h.1[a]? with
      | some t => if t.1 = 2 ∧ ¬ (i < 0 ∨ t.2 ≤ i.toNatClampNeg) then xgo pc ls (.long (h.2.2.1 a i.toNatClampNeg) :: st) h else none
      | none => none)
  | _ => none
def xAaload (pc : Nat) (ls : xLs) (st : List Value) (h : xHp) : Option xRs := match st with
  | .int i :: .ref a :: st => (match h.1[a]? with
      | some t => if t.1 = 3 ∧ ¬ (i < 0 ∨ t.2 ≤ i.toNatClampNeg) then xgo pc ls (va_rf (h.2.2.2 a i.toNatClampNeg) :: st) h else none
      | none => none)
  | _ => none
def xIastore (pc : Nat) (ls : xLs) (st : List Value) (h : xHp) : Option xRs := match st with
  | .int x :: .int i :: .ref a :: st => (match h.1[a]? with
      | some t => if t.1 = 0 ∧ ¬ (i < 0 ∨ t.2 ≤ i.toNatClampNeg) then xgo pc ls st (h.1, xu h.2.1 a i.toNatClampNeg x, h.2.2) else none
      | none => none)
  | _ => none
def xBastore (pc : Nat) (ls : xLs) (st : List Value) (h : xHp) : Option xRs := match st with
  | .int x :: .int i :: .ref a :: st => (match h.1[a]? with
      | some t => if t.1 = 1 ∧ ¬ (i < 0 ∨ t.2 ≤ i.toNatClampNeg) then xgo pc ls st (h.1, xu h.2.1 a i.toNatClampNeg (vp_nar .boolean x), h.2.2) else none
      | none => none)
  | _ => none
def xLastore (pc : Nat) (ls : xLs) (st : List Value) (h : xHp) : Option xRs := match st with
  | .long x :: .int i :: .ref a :: st => (match h.1[a]? with
      | some t => if t.1 = 2 ∧ ¬ (i < 0 ∨ t.2 ≤ i.toNatClampNeg) then xgo pc ls st (h.1, h.2.1, xu h.2.2.1 a i.toNatClampNeg x, h.2.2.2) else none
      | none => none)
  | _ => none
def xAastore (pc : Nat) (ls : xLs) (st : List Value) (h : xHp) : Option xRs := match st with
  | .ref r :: .int i :: .ref a :: st => (match h.1[a]?, h.1[r]? with
      | some t, some t' => if t.1 = 3 ∧ ¬ (i < 0 ∨ t.2 ≤ i.toNatClampNeg) ∧ t'.1 = xST + 4 then xgo pc ls st (h.1, h.2.1, h.2.2.1, xu h.2.2.2 a i.toNatClampNeg (some r)) else none
      | _, _ => none)
  | _ => none
def xcat (st : List Value) : Nat := (st.map fun v => v.category).sum
def xarg : List Value → xLs
  | [] => []
  | v :: as => if v.category = 2 then some v :: none :: xarg as else some v :: xarg as
def xent (j : Nat) (as : List Value) : xLs := xarg as ++ List.replicate (xnL j - (xarg as).length) none
def xinst (k n ci pc : Nat) (ls : xLs) (st : List Value) (h : xHp) : Option xRs := match st.drop n with
  | .ref r :: rest => (match h.1[r]? with
    | some t => if t.1 = ci + 4 ∧ xcat rest ≤ 8 ∧ (xarg (.ref r :: (st.take n).reverse)).length ≤ xnL k then some (.inr (.inl (k, .ref r :: (st.take n).reverse, (pc, ls, rest, h)))) else none
    | none => none)
  | _ => none
def xcallV (q : Option (Nat × Nat × Nat × Nat)) (pc : Nat) (ls : xLs) (st : List Value) (h : xHp) : Option xRs := match q with
  | some (0, k, n, ci) => xinst k n ci pc ls st h
  | _ => none
def xcallI (q : Option (Nat × Nat × Nat × Nat)) (pc : Nat) (ls : xLs) (st : List Value) (h : xHp) : Option xRs := match q with
  | some (2, k, n, ci) => xinst k n ci pc ls st h
  | some (6, k, n, ci) => xinst k n ci pc ls st h
  | some (3, _, _, _) => (match st with
    | .ref _ :: rest => if xcat rest ≤ 8 then xgo pc ls rest h else none
    | _ => none)
  | _ => none
def xcallS (q : Option (Nat × Nat × Nat × Nat)) (pc : Nat) (ls : xLs) (st : List Value) (h : xHp) : Option xRs := match q with
  | some (1, k, n, _) => if n ≤ st.length ∧ xcat (st.drop n) ≤ 8 ∧ (xarg (st.take n).reverse).length ≤ xnL k then some (.inr (.inl (k, (st.take n).reverse, (pc, ls, st.drop n, h)))) else none
  | some (4, _, _, _) => (match st with
    | .int n :: .int dp :: .ref a :: .int sp :: .ref a0 :: rest => (match h.1[a]?, h.1[a0]? with
      | some t, some t0 => if t.1 = 0 ∧ t0.1 = 0 ∧ ¬ sp < 0 ∧ ¬ dp < 0 ∧ ¬ n < 0 ∧ sp.toNatClampNeg + n.toNatClampNeg ≤ t0.2 ∧ dp.toNatClampNeg + n.toNatClampNeg ≤ t.2 ∧ xcat rest ≤ 8 then
          xgo pc ls rest (h.1, (fun x => if x = a then va_cpy (h.2.1 a0) (h.2.1 a) sp.toNatClampNeg dp.toNatClampNeg n.toNatClampNeg else h.2.1 x), h.2.2) else none
      | _, _ => none)
    | _ => none)
  | some (5, _, _, _) => (match st with
    | .int y :: .int x :: rest => if xcat rest ≤ 8 then xgo pc ls (.int (if x < y then y else x) :: rest) h else none
    | _ => none)
  | _ => none
def xIret (j : Nat) (st : List Value) : Option xRs := match st with
  | [.int x] => if xRk j = 0 ∨ (xRk j = 1 ∧ (x = 0 ∨ x = 1)) then some (.inr (.inr (some (.int x)))) else none
  | _ => none
def xLret (j : Nat) (st : List Value) : Option xRs := match st with
  | [.long x] => if xRk j = 2 then some (.inr (.inr (some (.long x)))) else none
  | _ => none
def xAret (j : Nat) (st : List Value) : Option xRs := match st with
  | [.ref x] => if xRk j = 3 then some (.inr (.inr (some (.ref x)))) else none
  | _ => none
def xVret (j : Nat) (st : List Value) : Option xRs := match st with
  | [] => if xRk j = 4 then some (.inr (.inr none)) else none
  | _ => none
def xcK (q : Option Int32) (pc : Nat) (ls : xLs) (st : List Value) (h : xHp) : Option xRs := match q with
  | some v => xgo pc ls (.int v :: st) h
  | none => none
def xcJ (q : Option Int64) (pc : Nat) (ls : xLs) (st : List Value) (h : xHp) : Option xRs := match q with
  | some v => xgo pc ls (.long v :: st) h
  | none => none
def xn (i : Instr) (n : Nat) : Bool := match i with
  | .bipush _ | .ldc _ | .iload _ | .lload _ | .aload _ | .istore _ | .lstore _ | .astore _ | .newarray _ => n == 2
  | .sipush _ | .ldc_w _ | .ldc2_w _ | .iinc _ _ | .ifCond _ _ | .if_icmp _ _ | .goto _ | .getfield _ | .putfield _ | .new _ | .anewarray _ | .invokevirtual _ | .invokestatic _ | .invokespecial _ => n == 3
  | .lookupswitch _ _ | .tableswitch _ _ _ _ => true
  | _ => n == 1
def xop (scr : xScr) (j pc : Nat) (i : Instr) (ls : xLs) (st : List Value) (h : xHp) : Option xRs := match i with
  | .iconst v => xgo (pc + 1) ls (.int (Int32.ofInt v) :: st) h
  | .bipush v => xgo (pc + 2) ls (.int (Int8.ofInt v).toInt32 :: st) h
  | .sipush v => xgo (pc + 3) ls (.int (Int16.ofInt v).toInt32 :: st) h
  | .lconst v => xgo (pc + 1) ls (.long (Int64.ofNat (v : Nat)) :: st) h
  | .ldc k => xcK (xlK (xO j) k) (pc + 2) ls st h
  | .ldc_w k => xcK (xlK (xO j) k) (pc + 3) ls st h
  | .ldc2_w k => xcJ (xlJ (xO j) k) (pc + 3) ls st h
  | .iload_n k => xldI (k : Nat) (pc + 1) ls st h
  | .iload k => xldI k (pc + 2) ls st h
  | .lload_n k => xldL (k : Nat) (pc + 1) ls st h
  | .lload k => xldL k (pc + 2) ls st h
  | .aload_n k => xldA (k : Nat) (pc + 1) ls st h
  | .aload k => xldA k (pc + 2) ls st h
  | .istore_n k => xstI (k : Nat) (pc + 1) ls st h
  | .istore k => xstI k (pc + 2) ls st h
  | .lstore_n k => xstL (k : Nat) (pc + 1) ls st h
  | .lstore k => xstL k (pc + 2) ls st h
  | .astore_n k => xstA (k : Nat) (pc + 1) ls st h
  | .astore k => xstA k (pc + 2) ls st h
  | .iinc k v => xinc k v (pc + 3) ls st h
  | .iadd => xI2 (fun x y => x + y) (pc + 1) ls st h
  | .isub => xI2 (fun x y => x - y) (pc + 1) ls st h
  | .imul => xI2 (fun x y => x * y) (pc + 1) ls st h
  | .iand => xI2 (fun x y => x &&& y) (pc + 1) ls st h
  | .ior => xI2 (fun x y => x ||| y) (pc + 1) ls st h
  | .ixor => xI2 (fun x y => x ^^^ y) (pc + 1) ls st h
  | .idiv => xID (fun x y => x / y) (pc + 1) ls st h
  | .irem => xID (fun x y => x - x / y * y) (pc + 1) ls st h
  | .ineg => xI1 (fun x => -x) (pc + 1) ls st h
  | .ishl => xI2 (fun x y => x <<< (y &&& 31)) (pc + 1) ls st h
  | .ishr => xI2 (fun x y => x >>> (y &&& 31)) (pc + 1) ls st h
  | .iushr => xI2 (fun x y => (x.toUInt32 >>> (y.toUInt32 &&& Int32.toUInt32 31)).toInt32) (pc + 1) ls st h
  | .ladd => xL2 (fun x y => x + y) (pc + 1) ls st h
  | .lsub => xL2 (fun x y => x - y) (pc + 1) ls st h
  | .lmul => xL2 (fun x y => x * y) (pc + 1) ls st h
  | .lcmp => xLC (pc + 1) ls st h
  | .lshr => xLS (fun x y => x >>> (y.toInt64 &&& 63)) (pc + 1) ls st h
  | .i2l => xIL (fun x => x.toInt64) (pc + 1) ls st h
  | .l2i => xLI (fun x => x.toInt32) (pc + 1) ls st h
  | .dup => xdup (pc + 1) ls st h
  | .dup2 => xdup2 (pc + 1) ls st h
  | .ifCond cd off => xif0 cd off pc ls st h
  | .if_icmp cd off => xif2 cd off pc ls st h
  | .goto off => xj pc off ls st h
  | .tableswitch d lo hi offs => xtab d lo hi offs pc ls st h
  | .lookupswitch d ps => xlook d ps pc ls st h
  | .getfield k => xgetf (xlF (xO j) k) (pc + 3) ls st h
  | .putfield k => xputf j (xlF (xO j) k) (pc + 3) ls st h
  | .new k => xnewc (xlC (xO j) k) (pc + 3) ls st h
  | .newarray .int => xnewa 0 (pc + 2) ls st h
  | .newarray .boolean => xnewa 1 (pc + 2) ls st h
  | .newarray .long => xnewa 2 (pc + 2) ls st h
  | .anewarray k => if xlA (xO j) k = true then xnewa 3 (pc + 3) ls st h else none
  | .arraylength => xlen scr (pc + 1) ls st h
  | .iaload => xIaload scr (pc + 1) ls st h
  | .baload => xBaload (pc + 1) ls st h
  | .laload => xLaload (pc + 1) ls st h
  | .aaload => xAaload (pc + 1) ls st h
  | .iastore => xIastore (pc + 1) ls st h
  | .bastore => xBastore (pc + 1) ls st h
  | .lastore => xLastore (pc + 1) ls st h
  | .aastore => xAastore (pc + 1) ls st h
  | .invokevirtual k => xcallV (xlM (xO j) k) (pc + 3) ls st h
  | .invokestatic k => xcallS (xlM (xO j) k) (pc + 3) ls st h
  | .invokespecial k => xcallI (xlM (xO j) k) (pc + 3) ls st h
  | .ireturn => xIret j st
  | .lreturn => xLret j st
  | .areturn => xAret j st
  | .return_ => xVret j st
  | _ => none
def xstep (scr : xScr) (j : Nat) (c : xCf) : Option xRs := match decode (xB j) c.1 with
  | .ok (i, n) => if xn i n = true then xop scr j c.1 i c.2.1 c.2.2.1 c.2.2.2 else none
  | .error _ => none
def xrun : Nat → Nat → xScr → Nat → xCf → Option (Option Value × xHp)
  | 0, _, _, _, _ => none
  | n + 1, d, scr, j, c => match xstep scr j c with
    | none => none
    | some (.inl c') => xrun n d scr j c'
    | some (.inr (.inl (k, as, c'))) => (match d with
      | 0 => none
      | d + 1 => (match xrun n d none k (0, xent k as, [], c'.2.2.2) with
        | none => none
        | some (v, h') => xrun n (d + 1) scr j (c'.1, c'.2.1, v.toList ++ c'.2.2.1, h')))
    | some (.inr (.inr v)) => some (v, c.2.2.2)
theorem xrun_mono : ∀ (n d : Nat) (scr : xScr) (j : Nat) (c : xCf) (r : Option Value × xHp), xrun n d scr j c = some r → xrun (n + 1) d scr j c = some r
  | 0, _, _, _, _, _, h => by cases h
  | n + 1, d, scr, j, c, r, h => by
    rw [xrun] at h ⊢
    cases hs : xstep scr j c with
    | none => rw [hs] at h; cases h
    | some q =>
      rw [hs] at h
      rcases q with c' | ⟨k, as, c'⟩ | v
      · exact xrun_mono n d scr j c' r h
      · cases d with
        | zero => cases h
        | succ d =>
          simp only at h ⊢
          cases hr : xrun n d none k (0, xent k as, [], c'.2.2.2) with
          | none => rw [hr] at h; cases h
          | some q =>
            rw [hr] at h
            rw [xrun_mono n d none k _ q hr]
            exact xrun_mono n (d + 1) scr j _ r h
      · exact h
theorem xrun_le {n m d : Nat} {scr : xScr} {j : Nat} {c : xCf} {r : Option Value × xHp} (hnm : n ≤ m) (h : xrun n d scr j c = some r) : xrun m d scr j c = some r := by
  induction hnm with
  | refl => exact h
  | step _ ih => exact xrun_mono _ _ _ _ _ _ ih
noncomputable def X (d : Nat) (scr : xScr) (j : Nat) (c : xCf) : Option (Option Value × xHp) := Classical.epsilon fun r => (∃ n, xrun n d scr j c = r ∧ r ≠ none) ∨ (r = none ∧ ∀ n, xrun n d scr j c = none)
theorem X_spec (d : Nat) (scr : xScr) (j : Nat) (c : xCf) : (∃ n, xrun n d scr j c = X d scr j c ∧ X d scr j c ≠ none) ∨ (X d scr j c = none ∧ ∀ n, xrun n d scr j c = none) := by
  refine Classical.epsilon_spec (p := fun r => (∃ n, xrun n d scr j c = r ∧ r ≠ none) ∨ (r = none ∧ ∀ n, xrun n d scr j c = none)) ?_
  by_cases h : ∃ n, xrun n d scr j c ≠ none
  · obtain ⟨n, hn⟩ := h
    exact ⟨_, Or.inl ⟨n, rfl, hn⟩⟩
  · exact ⟨none, Or.inr ⟨rfl, fun n => Classical.byContradiction fun q => h ⟨n, q⟩⟩⟩
theorem X_of {n d : Nat} {scr : xScr} {j : Nat} {c : xCf} {r : Option Value × xHp} (h : xrun n d scr j c = some r) : X d scr j c = some r := by
  rcases X_spec d scr j c with ⟨m, h1, h2⟩ | ⟨-, h2⟩
  · cases hx : X d scr j c with
    | none => exact absurd hx h2
    | some q =>
      rw [hx] at h1
      have a := xrun_le (Nat.le_max_left n m) h
      have b := xrun_le (Nat.le_max_right n m) h1
      rw [a] at b
      exact b.symm
  · rw [h2 n] at h
    cases h
theorem X_run {d : Nat} {scr : xScr} {j : Nat} {c : xCf} {r : Option Value × xHp} (h : X d scr j c = some r) : ∃ n, xrun n d scr j c = some r := by
  rcases X_spec d scr j c with ⟨m, h1, -⟩ | ⟨h1, -⟩
  · exact ⟨m, h1.trans h⟩
  · rw [h] at h1
    cases h1
theorem X_ext {d d' : Nat} {scr scr' : xScr} {j j' : Nat} {c c' : xCf} (h : ∀ r, (∃ n, xrun n d scr j c = some r) ↔ ∃ n, xrun n d' scr' j' c' = some r) : X d scr j c = X d' scr' j' c' := by
  cases h1 : X d scr j c with
  | some r =>
    obtain ⟨n, hn⟩ := (h r).mp (X_run h1)
    exact (X_of hn).symm
  | none =>
    cases h2 : X d' scr' j' c' with
    | none => rfl
    | some r =>
      obtain ⟨n, hn⟩ := (h r).mpr (X_run h2)
      rw [X_of hn] at h1
      cases h1
theorem X_next {d : Nat} {scr : xScr} {j : Nat} {c c' : xCf} (h : xstep scr j c = some (.inl c')) : X d scr j c = X d scr j c' := by
  refine X_ext fun r => ⟨fun ⟨n, hn⟩ => ?_, fun ⟨n, hn⟩ => ⟨n + 1, ?_⟩⟩
  · cases n with
    | zero => cases hn
    | succ n =>
      rw [xrun, h] at hn
      exact ⟨n, hn⟩
  · rw [xrun, h]
    exact hn
theorem X_call {d : Nat} {scr : xScr} {j k : Nat} {c c' : xCf} {as : List Value} (h : xstep scr j c = some (.inr (.inl (k, as, c')))) : X (d + 1) scr j c = (X d none k (0, xent k as, [], c'.2.2.2)).bind fun q => X (d + 1) scr j (c'.1, c'.2.1, q.1.toList ++ c'.2.2.1, q.2) := by
  cases hx : X d none k (0, xent k as, [], c'.2.2.2) with
  | some q =>
    obtain ⟨v, h'⟩ := q
    obtain ⟨m, hm⟩ := X_run hx
    refine X_ext fun r => ⟨fun ⟨n, hn⟩ => ?_, fun ⟨n, hn⟩ => ⟨max m n + 1, ?_⟩⟩
    · cases n with
      | zero => cases hn
      | succ n =>
        rw [xrun, h] at hn
        simp only at hn
        cases hr : xrun n d none k (0, xent k as, [], c'.2.2.2) with
        | none => rw [hr] at hn; cases hn
        | some q =>
          have e := (X_of hr).symm.trans hx
          cases e
          rw [hr] at hn
          exact ⟨n, hn⟩
    · rw [xrun, h]
      simp only
      rw [xrun_le (Nat.le_max_left m n) hm]
      exact xrun_le (Nat.le_max_right m n) hn
  | none =>
    cases h2 : X (d + 1) scr j c with
    | none => rfl
    | some r =>
      obtain ⟨n, hn⟩ := X_run h2
      cases n with
      | zero => cases hn
      | succ n =>
        rw [xrun, h] at hn
        simp only at hn
        cases hr : xrun n d none k (0, xent k as, [], c'.2.2.2) with
        | none => rw [hr] at hn; cases hn
        | some q =>
          rw [X_of hr] at hx
          cases hx
theorem X_ret {d : Nat} {scr : xScr} {j : Nat} {c : xCf} {v : Option Value} (h : xstep scr j c = some (.inr (.inr v))) : X d scr j c = some (v, c.2.2.2) := by
  refine X_of (n := 1) ?_
  rw [xrun, h]
end
section
theorem x_no {α : Type} {r : α} {P : Prop} (h : (none : Option α) = some r) : P := by cases h
section XI
variable {pc k n : Nat} {ls : xLs} {st : List Value} {h : xHp} {r : xRs} {j : Nat} {scr : xScr}
theorem xldI_inv (q : xldI k pc ls st h = some r) : ∃ x, ls[k]? = some (some (.int x)) ∧ r = .inl (pc, ls, .int x :: st, h) := by
  unfold xldI at q
  split at q
  · next hl => cases q; exact ⟨_, hl, rfl⟩
  · cases q
theorem xldL_inv (q : xldL k pc ls st h = some r) : ∃ x, ls[k]? = some (some (.long x)) ∧ r = .inl (pc, ls, .long x :: st, h) := by
  unfold xldL at q
  split at q
  · next hl => cases q; exact ⟨_, hl, rfl⟩
  · cases q
theorem xldA_inv (q : xldA k pc ls st h = some r) : ∃ x, ls[k]? = some (some (.ref x)) ∧ r = .inl (pc, ls, .ref x :: st, h) := by
  unfold xldA at q
  split at q
  · next hl => cases q; exact ⟨_, hl, rfl⟩
  · cases q
theorem xstI_inv (q : xstI k pc ls st h = some r) : ∃ x st', xok ls k = true ∧ st = .int x :: st' ∧ r = .inl (pc, ls.set k (some (.int x)), st', h) := by
  unfold xstI at q
  split at q
  · split at q
    · next hh => cases q; exact ⟨_, _, hh, rfl, rfl⟩
    · cases q
  · cases q
theorem xstA_inv (q : xstA k pc ls st h = some r) : ∃ x st', xok ls k = true ∧ st = .ref x :: st' ∧ r = .inl (pc, ls.set k (some (.ref x)), st', h) := by
  unfold xstA at q
  split at q
  · split at q
    · next hh => cases q; exact ⟨_, _, hh, rfl, rfl⟩
    · cases q
  · cases q
theorem xstL_inv (q : xstL k pc ls st h = some r) : ∃ x st', xok ls k = true ∧ k + 1 < ls.length ∧ st = .long x :: st' ∧ r = .inl (pc, (ls.set k (some (.long x))).set (k + 1) none, st', h) := by
  unfold xstL at q
  split at q
  · split at q
    · next hh => cases q; exact ⟨_, _, hh.1, hh.2, rfl, rfl⟩
    · cases q
  · cases q
theorem xinc_inv {v : Int} (q : xinc k v pc ls st h = some r) : ∃ x, ls[k]? = some (some (.int x)) ∧ xok ls k = true ∧ r = .inl (pc, ls.set k (some (.int (x + Int32.ofInt v))), st, h) := by
  unfold xinc at q
  split at q
  · next hl =>
    split at q
    · next hh => cases q; exact ⟨_, hl, hh, rfl⟩
    · cases q
  · cases q
theorem xI1_inv {f : Int32 → Int32} (q : xI1 f pc ls st h = some r) : ∃ x st', st = .int x :: st' ∧ r = .inl (pc, ls, .int (f x) :: st', h) := by
  unfold xI1 at q
  split at q
  · cases q; exact ⟨_, _, rfl, rfl⟩
  · cases q
theorem xIL_inv {f : Int32 → Int64} (q : xIL f pc ls st h = some r) : ∃ x st', st = .int x :: st' ∧ r = .inl (pc, ls, .long (f x) :: st', h) := by
  unfold xIL at q
  split at q
  · cases q; exact ⟨_, _, rfl, rfl⟩
  · cases q
theorem xLI_inv {f : Int64 → Int32} (q : xLI f pc ls st h = some r) : ∃ x st', st = .long x :: st' ∧ r = .inl (pc, ls, .int (f x) :: st', h) := by
  unfold xLI at q
  split at q
  · cases q; exact ⟨_, _, rfl, rfl⟩
  · cases q
theorem xI2_inv {f : Int32 → Int32 → Int32} (q : xI2 f pc ls st h = some r) : ∃ x y st', st = .int y :: .int x :: st' ∧ r = .inl (pc, ls, .int (f x y) :: st', h) := by
  unfold xI2 at q
  split at q
  · cases q; exact ⟨_, _, _, rfl, rfl⟩
  · cases q
theorem xID_inv {f : Int32 → Int32 → Int32} (q : xID f pc ls st h = some r) : ∃ x y st', ¬ y = 0 ∧ st = .int y :: .int x :: st' ∧ r = .inl (pc, ls, .int (f x y) :: st', h) := by
  unfold xID at q
  split at q
  · split at q
    · cases q
    · next hh => cases q; exact ⟨_, _, _, hh, rfl, rfl⟩
  · cases q
theorem xL2_inv {f : Int64 → Int64 → Int64} (q : xL2 f pc ls st h = some r) : ∃ x y st', st = .long y :: .long x :: st' ∧ r = .inl (pc, ls, .long (f x y) :: st', h) := by
  unfold xL2 at q
  split at q
  · cases q; exact ⟨_, _, _, rfl, rfl⟩
  · cases q
theorem xLC_inv (q : xLC pc ls st h = some r) : ∃ x y st', st = .long y :: .long x :: st' ∧ r = .inl (pc, ls, .int (lg_cmp x y) :: st', h) := by
  unfold xLC at q
  split at q
  · cases q; exact ⟨_, _, _, rfl, rfl⟩
  · cases q
theorem xLS_inv {f : Int64 → Int32 → Int64} (q : xLS f pc ls st h = some r) : ∃ x y st', st = .int y :: .long x :: st' ∧ r = .inl (pc, ls, .long (f x y) :: st', h) := by
  unfold xLS at q
  split at q
  · cases q; exact ⟨_, _, _, rfl, rfl⟩
  · cases q
theorem xdup_inv (q : xdup pc ls st h = some r) : ∃ v st', v.category = 1 ∧ st = v :: st' ∧ r = .inl (pc, ls, v :: v :: st', h) := by
  unfold xdup at q
  split at q
  · split at q
    · next hh => cases q; exact ⟨_, _, hh, rfl, rfl⟩
    · cases q
  · cases q
theorem xdup2_inv (q : xdup2 pc ls st h = some r) : ∃ v w st', v.category = 1 ∧ w.category = 1 ∧ st = v :: w :: st' ∧ r = .inl (pc, ls, v :: w :: v :: w :: st', h) := by
  unfold xdup2 at q
  split at q
  · split at q
    · next hh => cases q; exact ⟨_, _, _, hh.1, hh.2, rfl, rfl⟩
    · cases q
  · cases q
theorem xj_inv {off : Int} (q : xj pc off ls st h = some r) : ∃ tgt : Nat, (pc : Int) + off = (tgt : Int) ∧ r = .inl (tgt, ls, st, h) := by
  unfold xj at q
  split at q
  · cases q; exact ⟨((pc : Int) + off).toNat, by omega, rfl⟩
  · cases q
theorem xif_inv {cd : ClassFile.Cond} {x y : Int32} {off : Int} (q : xif cd x y off pc ls st h = some r) : ∃ tgt : Nat, (pc : Int) + off = (tgt : Int) ∧ ((xcond cd x y = true ∧ r = .inl (tgt, ls, st, h)) ∨ (xcond cd x y = false ∧ r = .inl (pc + 3, ls, st, h))) := by
  unfold xif at q
  split at q
  · refine ⟨((pc : Int) + off).toNat, by omega, ?_⟩
    split at q
    · next hh => cases q; exact Or.inl ⟨hh, rfl⟩
    · next hh => cases q; exact Or.inr ⟨by simpa using hh, rfl⟩
  · cases q
theorem xif0_inv {cd : ClassFile.Cond} {off : Int} (q : xif0 cd off pc ls st h = some r) : ∃ x st', st = .int x :: st' ∧ xif cd x 0 off pc ls st' h = some r := by
  unfold xif0 at q
  split at q
  · exact ⟨_, _, rfl, q⟩
  · cases q
theorem xif2_inv {cd : ClassFile.Cond} {off : Int} (q : xif2 cd off pc ls st h = some r) : ∃ x y st', st = .int y :: .int x :: st' ∧ xif cd x y off pc ls st' h = some r := by
  unfold xif2 at q
  split at q
  · exact ⟨_, _, _, rfl, q⟩
  · cases q
theorem xtab_inv {dflt lo hi : Int} {offs : Array Int} (q : xtab dflt lo hi offs pc ls st h = some r) : ∃ x st', st = .int x :: st' ∧ (((x.toInt < lo ∨ hi < x.toInt) ∧ xj pc dflt ls st' h = some r) ∨ (¬ x.toInt < lo ∧ ¬ hi < x.toInt ∧ ∃ off, offs[(x.toInt - lo).toNat]? = some off ∧ xj pc off ls st' h = some r)) := by
  unfold xtab at q
  split at q
  · split at q
    · next hh => exact ⟨_, _, rfl, Or.inl ⟨hh, q⟩⟩
    · next hh =>
      split at q
      · next ho => exact ⟨_, _, rfl, Or.inr ⟨fun z => hh (Or.inl z), fun z => hh (Or.inr z), _, ho, q⟩⟩
      · cases q
  · cases q
theorem xlook_inv {dflt : Int} {ps : Array (Int × Int)} (q : xlook dflt ps pc ls st h = some r) : ∃ x st', st = .int x :: st' ∧ (ps.toList.zip (ps.toList.drop 1)).all (fun (a, next) => a.1 < next.1) = true ∧ xj pc (Op.lookupswitch.offset ps.toList dflt x.toInt) ls st' h = some r := by
  unfold xlook at q
  split at q
  · split at q
    · next hh => exact ⟨_, _, rfl, hh, q⟩
    · cases q
  · cases q
theorem xgetf_inv {w : Option (Nat × Nat)} (q : xgetf w pc ls st h = some r) : ∃ ci k a st' t, w = some (ci, k) ∧ st = .ref a :: st' ∧ h.1[a]? = some t ∧ t.1 = ci + 4 ∧ k < t.2 ∧ r = .inl (pc, ls, xfv h a k (xFK ci k) :: st', h) := by
  unfold xgetf at q
  split at q
  · split at q
    · next ht =>
      split at q
      · next hh => cases q; exact ⟨_, _, _, _, _, rfl, rfl, ht, hh.1, hh.2, rfl⟩
      · cases q
    · cases q
  · cases q
theorem xputf_inv {w : Option (Nat × Nat)} (q : xputf j w pc ls st h = some r) : ∃ ci k v a st' t h', w = some (ci, k) ∧ st = v :: .ref a :: st' ∧ h.1[a]? = some t ∧ xputv (xFK ci k) k v a h = some h' ∧ t.1 = ci + 4 ∧ k < t.2 ∧ (xFn ci k = true → xIni j = some ci) ∧ r = .inl (pc, ls, st', h') := by
  unfold xputf at q
  split at q
  · split at q
    · next ht hv =>
      split at q
      · next hh => cases q; exact ⟨_, _, _, _, _, _, _, rfl, rfl, ht, hv, hh.1, hh.2.1, hh.2.2, rfl⟩
      · cases q
    · cases q
  · cases q
theorem xnewc_inv {w : Option (Nat × Nat)} (q : xnewc w pc ls st h = some r) : ∃ ci n, w = some (ci, n) ∧ r = .inl (pc, ls, .ref h.1.length :: st, xnew (ci + 4) n h) := by
  unfold xnewc at q
  split at q
  · cases q; exact ⟨_, _, rfl, rfl⟩
  · cases q
theorem xnewa_inv {tag : Nat} (q : xnewa tag pc ls st h = some r) : ∃ i st', st = .int i :: st' ∧ ¬ i < 0 ∧ i.toNatClampNeg ≤ 100000 ∧ r = .inl (pc, ls, .ref h.1.length :: st', xnew tag i.toNatClampNeg h) := by
  unfold xnewa at q
  split at q
  · split at q
    · cases q
    · next hh => cases q; exact ⟨_, _, rfl, fun z => hh (Or.inl z), Nat.le_of_not_lt fun z => hh (Or.inr z), rfl⟩
  · cases q
theorem xlen_inv (q : xlen scr pc ls st h = some r) : ∃ a st', st = .ref a :: st' ∧ ((∃ t, h.1[a]? = some t ∧ t.1 < 4 ∧ r = .inl (pc, ls, .int (Int32.ofNat t.2) :: st', h)) ∨ (a = xS ∧ ∃ w, scr = some w ∧ r = .inl (pc, ls, .int (Int32.ofNat w.1) :: st', h))) := by
  unfold xlen at q
  split at q
  · refine ⟨_, _, rfl, ?_⟩
    split at q
    · next ht =>
      split at q
      · next hh => cases q; exact Or.inl ⟨_, ht, hh, rfl⟩
      · cases q
    · split at q
      · next ha =>
        split at q
        · cases q; exact Or.inr ⟨ha, _, rfl, rfl⟩
        · cases q
      · cases q
  · cases q
theorem xIaload_inv (q : xIaload scr pc ls st h = some r) : ∃ i a st', st = .int i :: .ref a :: st' ∧ ((∃ t, h.1[a]? = some t ∧ t.1 = 0 ∧ vp_in i t.2 ∧ r = .inl (pc, ls, .int (h.2.1 a i.toNatClampNeg) :: st', h)) ∨ (a = xS ∧ ∃ w, scr = some w ∧ vp_in i w.1 ∧ r = .inl (pc, ls, .int (w.2 i.toNatClampNeg) :: st', h))) := by
  unfold xIaload at q
  split at q
  · refine ⟨_, _, _, rfl, ?_⟩
    split at q
    · next ht =>
      split at q
      · next hh => cases q; exact Or.inl ⟨_, ht, hh.1, hh.2, rfl⟩
      · cases q
    · split at q
      · next ha =>
        split at q
        · split at q
          · next hh => cases q; exact Or.inr ⟨ha, _, rfl, hh, rfl⟩
          · cases q
        · cases q
      · cases q
  · cases q
theorem xBaload_inv (q : xBaload pc ls st h = some r) : ∃ i a st' t, st = .int i :: .ref a :: st' ∧ h.1[a]? = some t ∧ t.1 = 1 ∧ vp_in i t.2 ∧ r = .inl (pc, ls, .int (h.2.1 a i.toNatClampNeg) :: st', h) := by
  unfold xBaload at q
  split at q
  · split at q
    · next ht =>
      split at q
      · next hh => cases q; exact ⟨_, _, _, _, rfl, ht, hh.1, hh.2, rfl⟩
      · cases q
    · cases q
  · cases q
theorem xLaload_inv (q : xLaload pc ls st h = some r) : ∃ i a st' t, st = .int i :: .ref a :: st' ∧ h.1[a]? = some t ∧ t.1 = 2 ∧ vp_in i t.2 ∧ r = .inl (pc, ls, .long (h.2.2.1 a i.toNatClampNeg) :: st', h) := by
  unfold xLaload at q
  split at q
  · split at q
    · next ht =>
      split at q
      · next hh => cases q; exact ⟨_, _, _, _, rfl, ht, hh.1, hh.2, rfl⟩
      · cases q
    · cases q
  · cases q
theorem xAaload_inv (q : xAaload pc ls st h = some r) : ∃ i a st' t, st = .int i :: .ref a :: st' ∧ h.1[a]? = some t ∧ t.1 = 3 ∧ vp_in i t.2 ∧ r = .inl (pc, ls, va_rf (h.2.2.2 a i.toNatClampNeg) :: st', h) := by
  unfold xAaload at q
  split at q
  · split at q
    · next ht =>
      split at q
      · next hh => cases q; exact ⟨_, _, _, _, rfl, ht, hh.1, hh.2, rfl⟩
      · cases q
    · cases q
  · cases q
theorem xIastore_inv (q : xIastore pc ls st h = some r) : ∃ x i a st' t, st = .int x :: .int i :: .ref a :: st' ∧ h.1[a]? = some t ∧ t.1 = 0 ∧ vp_in i t.2 ∧ r = .inl (pc, ls, st', (h.1, xu h.2.1 a i.toNatClampNeg x, h.2.2)) := by
  unfold xIastore at q
  split at q
  · split at q
    · next ht =>
      split at q
      · next hh => cases q; exact ⟨_, _, _, _, _, rfl, ht, hh.1, hh.2, rfl⟩
      · cases q
    · cases q
  · cases q
theorem xBastore_inv (q : xBastore pc ls st h = some r) : ∃ x i a st' t, st = .int x :: .int i :: .ref a :: st' ∧ h.1[a]? = some t ∧ t.1 = 1 ∧ vp_in i t.2 ∧ r = .inl (pc, ls, st', (h.1, xu h.2.1 a i.toNatClampNeg (vp_nar .boolean x), h.2.2)) := by
  unfold xBastore at q
  split at q
  · split at q
    · next ht =>
      split at q
      · next hh => cases q; exact ⟨_, _, _, _, _, rfl, ht, hh.1, hh.2, rfl⟩
      · cases q
    · cases q
  · cases q
theorem xLastore_inv (q : xLastore pc ls st h = some r) : ∃ x i a st' t, st = .long x :: .int i :: .ref a :: st' ∧ h.1[a]? = some t ∧ t.1 = 2 ∧ vp_in i t.2 ∧ r = .inl (pc, ls, st', (h.1, h.2.1, xu h.2.2.1 a i.toNatClampNeg x, h.2.2.2)) := by
  unfold xLastore at q
  split at q
  · split at q
    · next ht =>
      split at q
      · next hh => cases q; exact ⟨_, _, _, _, _, rfl, ht, hh.1, hh.2, rfl⟩
      · cases q
    · cases q
  · cases q
theorem xAastore_inv (q : xAastore pc ls st h = some r) : ∃ r' i a st' t t', st = .ref r' :: .int i :: .ref a :: st' ∧ h.1[a]? = some t ∧ h.1[r']? = some t' ∧ t.1 = 3 ∧ vp_in i t.2 ∧ t'.1 = xST + 4 ∧ r = .inl (pc, ls, st', (h.1, h.2.1, h.2.2.1, xu h.2.2.2 a i.toNatClampNeg (some r'))) := by
  unfold xAastore at q
  split at q
  · split at q
    · next ht ht' =>
      split at q
      · next hh => cases q; exact ⟨_, _, _, _, _, _, rfl, ht, ht', hh.1, hh.2.1, hh.2.2, rfl⟩
      · cases q
    · cases q
  · cases q
theorem xinst_inv {ci : Nat} (q : xinst k n ci pc ls st h = some r) : ∃ a rest t, st.drop n = .ref a :: rest ∧ h.1[a]? = some t ∧ t.1 = ci + 4 ∧ xcat rest ≤ 8 ∧ (xarg (.ref a :: (st.take n).reverse)).length ≤ xnL k ∧ r = .inr (.inl (k, .ref a :: (st.take n).reverse, (pc, ls, rest, h))) := by
  unfold xinst at q
  split at q
  · next hd =>
    split at q
    · next ht =>
      split at q
      · next hh => cases q; exact ⟨_, _, _, hd, ht, hh.1, hh.2.1, hh.2.2, rfl⟩
      · cases q
    · cases q
  · cases q
theorem xcallV_inv {w : Option (Nat × Nat × Nat × Nat)} (q : xcallV w pc ls st h = some r) : ∃ k n ci, w = some (0, k, n, ci) ∧ xinst k n ci pc ls st h = some r := by
  unfold xcallV at q
  split at q
  · exact ⟨_, _, _, rfl, q⟩
  · cases q
theorem xcallI_inv {w : Option (Nat × Nat × Nat × Nat)} (q : xcallI w pc ls st h = some r) : (∃ k n ci, w = some (2, k, n, ci) ∧ xinst k n ci pc ls st h = some r) ∨ (∃ k n ci, w = some (6, k, n, ci) ∧ xinst k n ci pc ls st h = some r) ∨ (∃ k n ci a rest, w = some (3, k, n, ci) ∧ st = .ref a :: rest ∧ xcat rest ≤ 8 ∧ r = .inl (pc, ls, rest, h)) := by
  unfold xcallI at q
  split at q
  · exact Or.inl ⟨_, _, _, rfl, q⟩
  · exact Or.inr (Or.inl ⟨_, _, _, rfl, q⟩)
  · refine Or.inr (Or.inr ?_)
    split at q
    · split at q
      · next hh => cases q; exact ⟨_, _, _, _, _, rfl, rfl, hh, rfl⟩
      · cases q
    · cases q
  · cases q
theorem xcallS_inv {w : Option (Nat × Nat × Nat × Nat)} (q : xcallS w pc ls st h = some r) : (∃ k n ci, w = some (1, k, n, ci) ∧ n ≤ st.length ∧ xcat (st.drop n) ≤ 8 ∧ (xarg (st.take n).reverse).length ≤ xnL k ∧ r = .inr (.inl (k, (st.take n).reverse, (pc, ls, st.drop n, h)))) ∨ (∃ k n ci, w = some (4, k, n, ci) ∧ ∃ (n dp : Int32) (a : Nat) (sp : Int32) (a0 : Nat) (rest : List Value) (t t0 : Nat × Nat), st = .int n :: .int dp :: .ref a :: .int sp :: .ref a0 :: rest ∧ h.1[a]? = some t ∧ h.1[a0]? = some t0 ∧ t.1 = 0 ∧ t0.1 = 0 ∧ ¬ sp < 0 ∧ ¬ dp < 0 ∧ ¬ n < 0 ∧ sp.toNatClampNeg + n.toNatClampNeg ≤ t0.2 ∧ dp.toNatClampNeg + n.toNatClampNeg ≤ t.2 ∧ xcat rest ≤ 8 ∧ r = .inl (pc, ls, rest, (h.1, (fun x => if x = a then va_cpy (h.2.1 a0) (h.2.1 a) sp.toNatClampNeg dp.toNatClampNeg n.toNatClampNeg else h.2.1 x), h.2.2))) ∨ (∃ k n ci, w = some (5, k, n, ci) ∧ ∃ x y rest, st = .int y :: .int x :: rest ∧ xcat rest ≤ 8 ∧ r = .inl (pc, ls, .int (if x < y then y else x) :: rest, h)) := by
  unfold xcallS at q
  split at q
  · split at q
    · next hh => cases q; exact Or.inl ⟨_, _, _, rfl, hh.1, hh.2.1, hh.2.2, rfl⟩
    · cases q
  · refine Or.inr (Or.inl ⟨_, _, _, rfl, ?_⟩)
    split at q
    · split at q
      · next ht ht0 =>
        split at q
        · next hh =>
          obtain ⟨g1, g2, g3, g4, g5, g6, g7, g8⟩ := hh
          cases q
          exact ⟨_, _, _, _, _, _, _, _, rfl, ht, ht0, g1, g2, g3, g4, g5, g6, g7, g8, rfl⟩
        · cases q
      · cases q
    · cases q
  · refine Or.inr (Or.inr ⟨_, _, _, rfl, ?_⟩)
    split at q
    · split at q
      · next hh => cases q; exact ⟨_, _, _, rfl, hh, rfl⟩
      · cases q
    · cases q
  · cases q
theorem xIret_inv (q : xIret j st = some r) : ∃ x, st = [.int x] ∧ (xRk j = 0 ∨ (xRk j = 1 ∧ (x = 0 ∨ x = 1))) ∧ r = .inr (.inr (some (.int x))) := by
  unfold xIret at q
  split at q
  · split at q
    · next hh => cases q; exact ⟨_, rfl, hh, rfl⟩
    · cases q
  · cases q
theorem xLret_inv (q : xLret j st = some r) : ∃ x, st = [.long x] ∧ xRk j = 2 ∧ r = .inr (.inr (some (.long x))) := by
  unfold xLret at q
  split at q
  · split at q
    · next hh => cases q; exact ⟨_, rfl, hh, rfl⟩
    · cases q
  · cases q
theorem xAret_inv (q : xAret j st = some r) : ∃ x, st = [.ref x] ∧ xRk j = 3 ∧ r = .inr (.inr (some (.ref x))) := by
  unfold xAret at q
  split at q
  · split at q
    · next hh => cases q; exact ⟨_, rfl, hh, rfl⟩
    · cases q
  · cases q
theorem xVret_inv (q : xVret j st = some r) : st = [] ∧ xRk j = 4 ∧ r = .inr (.inr none) := by
  unfold xVret at q
  split at q
  · split at q
    · next hh => cases q; exact ⟨rfl, hh, rfl⟩
    · cases q
  · cases q
theorem xcK_inv {w : Option Int32} (q : xcK w pc ls st h = some r) : ∃ v, w = some v ∧ r = .inl (pc, ls, .int v :: st, h) := by
  unfold xcK at q
  split at q
  · cases q; exact ⟨_, rfl, rfl⟩
  · cases q
theorem xcJ_inv {w : Option Int64} (q : xcJ w pc ls st h = some r) : ∃ v, w = some v ∧ r = .inl (pc, ls, .long v :: st, h) := by
  unfold xcJ at q
  split at q
  · cases q; exact ⟨_, rfl, rfl⟩
  · cases q
end XI
end
section
def xa (base b a : Nat) : Nat := if a = xS then b else base + a
def xc (base b : Nat) (v : Value) : Value := match v with
  | .ref a => .ref (xa base b a)
  | v => v
theorem xc_cat (base b : Nat) (v : Value) : (xc base b v).category = v.category := by cases v <;> rfl
theorem xcat_map (base b : Nat) (st : List Value) : ((st.map (xc base b)).map fun v => v.category).sum = xcat st := by
  unfold xcat
  rw [List.map_map]
  congr 1
  exact List.map_congr_left (fun v _ => xc_cat base b v)
def xlv (base b : Nat) (ls : xLs) : List (Nat × Value) := ls.zipIdx.filterMap (fun q => q.1.map (fun v => (q.2, xc base b v)))
theorem xlv_mem {base b : Nat} {ls : xLs} {q : Nat × Value} : q ∈ xlv base b ls ↔ ∃ v, ls[q.1]? = some (some v) ∧ xc base b v = q.2 := by
  unfold xlv
  rw [List.mem_filterMap]
  constructor
  · rintro ⟨⟨o, i⟩, h1, h2⟩
    have h3 : ls[i]? = some o := List.mem_zipIdx_iff_getElem?.mp h1
    cases o with
    | none => cases h2
    | some v =>
      cases h2
      exact ⟨v, h3, rfl⟩
  · rintro ⟨v, h1, h2⟩
    refine ⟨(some v, q.1), List.mem_zipIdx_iff_getElem?.mpr h1, ?_⟩
    show some (q.1, xc base b v) = some q
    rw [h2]
def xlh (base b nL : Nat) (la : Array Slot) (ls : xLs) : Prop := lv_has la nL (xlv base b ls) ∧ ls.length = nL
theorem xlh_at {base b nL : Nat} {la : Array Slot} {ls : xLs} (h : xlh base b nL la ls) {i : Nat} {v : Value} (hi : ls[i]? = some (some v)) : la[i]? = some (.val (xc base b v)) := h.1.2.2 (i, xc base b v) (xlv_mem.mpr ⟨v, hi, rfl⟩)
theorem lv_mono {la : Array Slot} {nL : Nat} {l l' : List (Nat × Value)} (h : lv_has la nL l) (hl : ∀ q ∈ l', q ∈ l) : lv_has la nL l' := ⟨h.1, h.2.1, fun q hq => h.2.2 q (hl q hq)⟩
theorem xlh_set1 {base b nL : Nat} {la : Array Slot} {ls : xLs} {k : Nat} {v : Value} (hk : xok ls k = true) (hl : ls.length = nL) (h : lv_has la nL ((k, xc base b v) :: (xlv base b ls).filter (fun q => !(q.1 == k) && !(q.1 + 1 == k && q.2.category == 2)))) : xlh base b nL la (ls.set k (some v)) := by
  simp only [xok, Bool.and_eq_true, decide_eq_true_eq, Bool.or_eq_true, beq_iff_eq] at hk
  refine ⟨lv_mono h fun q hq => ?_, by rw [List.length_set]; exact hl⟩
  obtain ⟨w, h1, h2⟩ := xlv_mem.mp hq
  by_cases e : q.1 = k
  · rw [e, List.getElem?_set_self hk.1] at h1
    cases h1
    exact List.mem_cons.mpr (Or.inl (Prod.ext e h2.symm))
  · rw [List.getElem?_set_ne (Ne.symm e)] at h1
    refine List.mem_cons.mpr (Or.inr (List.mem_filter.mpr ⟨xlv_mem.mpr ⟨w, h1, h2⟩, ?_⟩))
    have e2 : ¬ (q.1 + 1 = k ∧ q.2.category = 2) := by
      rintro ⟨a1, a2⟩
      rcases hk.2 with z | z
      · omega
      · have e3 : k - 1 = q.1 := by omega
        rw [e3, List.getD_eq_getElem?_getD, h1] at z
        rw [← h2, xc_cat] at a2
        cases w <;> simp_all [xnl, Value.category]
    simp [e]
    exact Classical.not_and_iff_not_or_not.mp e2
theorem xlh_set2 {base b nL : Nat} {la : Array Slot} {ls : xLs} {k : Nat} {v : Value} (hk : xok ls k = true) (hk2 : k + 1 < ls.length) (hl : ls.length = nL) (h : lv_has la nL ((k, xc base b v) :: (xlv base b ls).filter (fun q => !(q.1 == k) && (!(q.1 == k + 1) && !(q.1 + 1 == k && q.2.category == 2))))) : xlh base b nL la ((ls.set k (some v)).set (k + 1) none) := by
  simp only [xok, Bool.and_eq_true, decide_eq_true_eq, Bool.or_eq_true, beq_iff_eq] at hk
  refine ⟨lv_mono h fun q hq => ?_, by rw [List.length_set, List.length_set]; exact hl⟩
  obtain ⟨w, h1, h2⟩ := xlv_mem.mp hq
  by_cases e1 : q.1 = k + 1
  · rw [e1, List.getElem?_set_self (by rw [List.length_set]; exact hk2)] at h1
    cases h1
  · rw [List.getElem?_set_ne (Ne.symm e1)] at h1
    by_cases e : q.1 = k
    · rw [e, List.getElem?_set_self hk.1] at h1
      cases h1
      exact List.mem_cons.mpr (Or.inl (Prod.ext e h2.symm))
    · rw [List.getElem?_set_ne (Ne.symm e)] at h1
      refine List.mem_cons.mpr (Or.inr (List.mem_filter.mpr ⟨xlv_mem.mpr ⟨w, h1, h2⟩, ?_⟩))
      have e2 : ¬ (q.1 + 1 = k ∧ q.2.category = 2) := by
        rintro ⟨a1, a2⟩
        rcases hk.2 with z | z
        · omega
        · have e3 : k - 1 = q.1 := by omega
          rw [e3, List.getD_eq_getElem?_getD, h1] at z
          rw [← h2, xc_cat] at a2
          cases w <;> simp_all [xnl, Value.category]
      simp [e, e1]
      exact Classical.not_and_iff_not_or_not.mp e2
def xfw (base b : Nat) (h : xHp) (a k kd : Nat) : Value := match kd with
  | 0 => .int (h.2.1 a k)
  | 1 => .int (h.2.1 a k)
  | 2 => .long (h.2.2.1 a k)
  | _ => va_rf ((h.2.2.2 a k).map (xa base b))
theorem xfw_eq (base b : Nat) (h : xHp) (a k kd : Nat) : xc base b (xfv h a k kd) = xfw base b h a k kd := by
  match kd with
  | 0 => rfl
  | 1 => rfl
  | 2 => rfl
  | kd + 3 =>
    show xc base b (va_rf (h.2.2.2 a k)) = va_rf ((h.2.2.2 a k).map (xa base b))
    cases h.2.2.2 a k <;> rfl
def xe (cA : Nat → ClassId) (base b : Nat) (h : xHp) (i : Nat) (t : Nat × Nat) : va_E := match t.1 with
  | 0 => .inl (cA 0, t.2, .inl (h.2.1 i))
  | 1 => .inl (cA 1, t.2, .inl (h.2.1 i))
  | 2 => .inl (cA 2, t.2, .inr (.inl (h.2.2.1 i)))
  | 3 => .inl (cA 3, t.2, .inr (.inr (.inr (.inr (fun k => (h.2.2.2 i k).map (xa base b))))))
  | ci + 4 => .inr (ci, (List.range t.2).map (fun k => xfw base b h i k (xFK ci k)))
def xw (cA : Nat → ClassId) (base b : Nat) (h : xHp) : va_W := h.1.mapIdx (fun i t => (base + i, xe cA base b h i t))
theorem xw_get {cA : Nat → ClassId} {base b : Nat} {h : xHp} {a : Nat} {t : Nat × Nat} (ha : h.1[a]? = some t) : (xw cA base b h)[a]? = some (base + a, xe cA base b h a t) := by
  rw [xw, List.getElem?_mapIdx, ha]
  rfl
theorem xw_len (cA : Nat → ClassId) (base b : Nat) (h : xHp) : (xw cA base b h).length = h.1.length := by rw [xw, List.length_mapIdx]
def xoff (h h' : xHp) (a : Nat) : Prop := h'.1 = h.1 ∧ ∀ i, i ≠ a → h'.2.1 i = h.2.1 i ∧ h'.2.2.1 i = h.2.2.1 i ∧ h'.2.2.2 i = h.2.2.2 i
theorem xe_congr {cA : Nat → ClassId} {base b : Nat} {h h' : xHp} {i : Nat} (t : Nat × Nat) (h1 : h'.2.1 i = h.2.1 i) (h2 : h'.2.2.1 i = h.2.2.1 i) (h3 : h'.2.2.2 i = h.2.2.2 i) : xe cA base b h' i t = xe cA base b h i t := by
  unfold xe xfw
  rw [h1, h2, h3]
theorem xw_set {cA : Nat → ClassId} {base b : Nat} {h h' : xHp} {a : Nat} {t : Nat × Nat} (ha : h.1[a]? = some t) (ho : xoff h h' a) {e : va_E} (he : e = xe cA base b h' a t) : (xw cA base b h).set a (base + a, e) = xw cA base b h' := by
  subst he
  apply List.ext_getElem?
  intro i
  have hl : a < (xw cA base b h).length := by rw [xw_len]; exact (List.getElem?_eq_some_iff.mp ha).1
  by_cases hi : i = a
  · subst hi
    rw [List.getElem?_set_self hl, xw_get (h := h') (by rw [ho.1]; exact ha)]
  · rw [List.getElem?_set_ne (Ne.symm hi), xw, xw, List.getElem?_mapIdx, List.getElem?_mapIdx, ho.1]
    cases h.1[i]? with
    | none => rfl
    | some t' =>
      obtain ⟨h1, h2, h3⟩ := ho.2 i hi
      show some (base + i, xe cA base b h i t') = some (base + i, xe cA base b h' i t')
      rw [xe_congr t' h1 h2 h3]
theorem xz_ne {α : Type} {f : Nat → Nat → α} {a : Nat} {v : α} {x : Nat} (h : x ≠ a) : xz f a v x = f x := by simp [xz, h]
theorem xu_ne {α : Type} {f : Nat → Nat → α} {a k : Nat} {v : α} {x : Nat} (h : x ≠ a) : xu f a k v x = f x := by simp [xu, h]
theorem xu_at {α : Type} {f : Nat → Nat → α} {a k : Nat} {v : α} : xu f a k v a = va_up (f a) k v := by simp [xu]
theorem xw_new {cA : Nat → ClassId} {base b tag n : Nat} {h : xHp} : xw cA base b (xnew tag n h) = xw cA base b h ++ [(base + h.1.length, xe cA base b (xnew tag n h) h.1.length (tag, n))] := by
  apply List.ext_getElem?
  intro i
  by_cases hi : i < h.1.length
  · rw [List.getElem?_append_left (by rw [xw_len]; exact hi)]
    have ht := List.getElem?_eq_getElem hi
    rw [xw_get ht, xw_get (h := xnew tag n h) (t := h.1[i]) (by show (h.1 ++ [(tag, n)])[i]? = _; rw [List.getElem?_append_left hi]; exact ht)]
    rw [xe_congr _ (xz_ne (Nat.ne_of_lt hi)) (xz_ne (Nat.ne_of_lt hi)) (xz_ne (Nat.ne_of_lt hi))]
  · by_cases he : i = h.1.length
    · subst he
      rw [List.getElem?_append_right (by rw [xw_len]; exact Nat.le_refl _), xw_len, Nat.sub_self]
      rw [xw_get (h := xnew tag n h) (t := (tag, n)) (by show (h.1 ++ [(tag, n)])[h.1.length]? = _; simp)]
      rfl
    · rw [List.getElem?_eq_none (by rw [xw_len]; show (h.1 ++ [(tag, n)]).length ≤ i; simp; omega), List.getElem?_eq_none (by simp [xw_len]; omega)]
theorem xw_D (cA : Nat → ClassId) (base b : Nat) (h : xHp) : va_D (fun q => base ≤ q) (xw cA base b h) := by
  have key : ∀ (k : Nat) (q : Nat × va_E), (xw cA base b h)[k]? = some q → q.1 = base + k := by
    intro k q hk
    rw [xw, List.getElem?_mapIdx] at hk
    cases ht : h.1[k]? with
    | none => rw [ht] at hk; cases hk
    | some t => rw [ht] at hk; cases hk; rfl
  refine ⟨fun i j x y hi hj hxy => ?_, fun k q hk => ?_⟩
  · have := key i x hi
    have := key j y hj
    omega
  · have := key k q hk
    show base ≤ q.1
    omega
theorem xa_in {base b a : Nat} {sh : xSh} {t : Nat × Nat} (ha : sh[a]? = some t) (hm : sh.length ≤ xS) : xa base b a = base + a := by
  have : a < sh.length := (List.getElem?_eq_some_iff.mp ha).1
  have h2 : a ≠ xS := by omega
  simp [xa, h2]
theorem xf_get {base b : Nat} {h : xHp} {a n ci k : Nat} (hk : k < n) : ((List.range n).map (fun i => xfw base b h a i (xFK ci i)))[k]? = some (xc base b (xfv h a k (xFK ci k))) := by
  rw [List.getElem?_map, List.getElem?_range hk, xfw_eq]
  rfl
theorem xu_eq {α : Type} (f : Nat → Nat → α) (a k : Nat) (v : α) (i : Nat) : xu f a k v a i = if i = k then v else f a i := by simp [xu, va_up]
theorem xputv_off {kd k a : Nat} {v : Value} {h h' : xHp} (hp : xputv kd k v a h = some h') : xoff h h' a := by
  unfold xputv at hp
  split at hp
  · cases hp; exact ⟨rfl, fun i hi => ⟨xu_ne hi, rfl, rfl⟩⟩
  · split at hp
    · cases hp; exact ⟨rfl, fun i hi => ⟨xu_ne hi, rfl, rfl⟩⟩
    · cases hp
  · cases hp; exact ⟨rfl, fun i hi => ⟨rfl, xu_ne hi, rfl⟩⟩
  · cases hp; exact ⟨rfl, fun i hi => ⟨rfl, rfl, xu_ne hi⟩⟩
  · cases hp
theorem xputv_self {base b kd k a : Nat} {v : Value} {h h' : xHp} (hp : xputv kd k v a h = some h') : xfw base b h' a k kd = xc base b v := by
  unfold xputv at hp
  split at hp
  · cases hp; simp [xfw, xu_eq, xc]
  · split at hp
    · cases hp; simp [xfw, xu_eq, xc]
    · cases hp
  · cases hp; simp [xfw, xu_eq, xc]
  · cases hp; simp [xfw, xu_eq, xc, va_rf]
  · cases hp
theorem xputv_ne {base b kd k a : Nat} {v : Value} {h h' : xHp} (hp : xputv kd k v a h = some h') {i : Nat} (hi : i ≠ k) (kd' : Nat) : xfw base b h' a i kd' = xfw base b h a i kd' := by
  have e : h'.2.1 a i = h.2.1 a i ∧ h'.2.2.1 a i = h.2.2.1 a i ∧ h'.2.2.2 a i = h.2.2.2 a i := by
    unfold xputv at hp
    split at hp
    · cases hp; simp [xu_eq, hi]
    · split at hp
      · cases hp; simp [xu_eq, hi]
      · cases hp
    · cases hp; simp [xu_eq, hi]
    · cases hp; simp [xu_eq, hi]
    · cases hp
  unfold xfw
  rw [e.1, e.2.1, e.2.2]
theorem xf_set {base b k a n ci : Nat} {v : Value} {h h' : xHp} (hp : xputv (xFK ci k) k v a h = some h') : ((List.range n).map (fun i => xfw base b h a i (xFK ci i))).set k (xc base b v) = (List.range n).map (fun i => xfw base b h' a i (xFK ci i)) := by
  apply List.ext_getElem?
  intro i
  by_cases hi : i = k
  · subst hi
    by_cases hn : i < n
    · rw [List.getElem?_set_self (by simpa using hn), List.getElem?_map, List.getElem?_range hn, Option.map_some, xputv_self hp]
    · rw [List.getElem?_eq_none (by simp; omega), List.getElem?_eq_none (by simp; omega)]
  · rw [List.getElem?_set_ne (Ne.symm hi)]
    by_cases hn : i < n
    · rw [List.getElem?_map, List.getElem?_map, List.getElem?_range hn, Option.map_some, Option.map_some, xputv_ne hp hi]
    · rw [List.getElem?_eq_none (by simp; omega), List.getElem?_eq_none (by simp; omega)]
def xsl (sh : xSh) : Nat := (sh.map fun t => t.2).sum
theorem xsl_app (a b : xSh) : xsl (a ++ b) = xsl a + xsl b := by simp [xsl]
abbrev xA (base : Nat) : Nat → Prop := fun q => base ≤ q
def xtys (cA : Nat → ClassId) : List (ClassId × FieldType) := [(cA 0, .int), (cA 1, .boolean), (cA 2, .long), (cA 3, .object xSTn)]
theorem xw_addr {D : va_G} {cA : Nat → ClassId} {base b q : Nat} {h : xHp} {e : va_E} {H : Heap} (hP : va_P D xCl (xw cA base b h ++ [(q, e)]) H) (hD : va_D (xA base) (xw cA base b h ++ [(q, e)])) (hz : H.size ≤ base + h.1.length + 1) : q = base + h.1.length := by
  have hl : (xw cA base b h ++ [(q, e)])[h.1.length]? = some (q, e) := by
    rw [List.getElem?_append_right (by rw [xw_len]; exact Nat.le_refl _), xw_len, Nat.sub_self]
    rfl
  have h1 : q < H.size := (hP _ _ hl).lt
  have h2 : base ≤ q := hD.2 _ _ hl
  by_cases hlt : q < base + h.1.length
  · obtain ⟨t, ht⟩ : ∃ t, h.1[q - base]? = some t := ⟨_, List.getElem?_eq_getElem (by omega)⟩
    have h3 : (xw cA base b h ++ [(q, e)])[q - base]? = some (base + (q - base), xe cA base b h (q - base) t) := by
      rw [List.getElem?_append_left (by rw [xw_len]; omega)]
      exact xw_get ht
    have h4 := hD.1 _ _ _ _ h3 hl (by show base + (q - base) = q; omega)
    omega
  · omega
theorem xw_low {D : va_G} {cA : Nat → ClassId} {base b : Nat} {h : xHp} {H : Heap} (hP : va_P D xCl (xw cA base b h) H) (hz : base ≤ H.size) : base + h.1.length ≤ H.size := by
  cases hn : h.1.length with
  | zero => omega
  | succ n =>
    obtain ⟨t, ht⟩ : ∃ t, h.1[n]? = some t := ⟨_, List.getElem?_eq_getElem (by omega)⟩
    have h1 := (hP _ _ (xw_get ht)).lt
    have h2 : base + n < H.size := h1
    omega
end
section
def xNest (U : State) : Prop := ∀ q ∈ xNs, va_Nw (.methodLinkNest q.1 q.2.1 q.2.2.1 q.2.2.2) U
def xWs (k : Nat) : List Cond := Cond.code (xY k) (xB k) (xnL k) (xRt k) :: xgw
def xRm (d mc ms : Nat) : Room := { frames := d + 1, cells := mc, slots := ms, locals := 40 * (d + 1) }
def xBg (D : va_G) (cA : Nat → ClassId) (base b : Nat) (h : xHp) (U : State) : Prop := U.heap.size = base + h.1.length ∧ va_P D xCl (xw cA base b h) U.heap ∧ va_K D xCl (xtys cA) U ∧ xNest U ∧ va_AO xSTn U
def xPc (D : va_G) (cA : Nat → ClassId) (base b : Nat) (h : xHp) (as : List Value) : Array Value → State → Prop := va_Pc (as.map (xc base b)) (xBg D cA base b h)
def xQc (D : va_G) (cA : Nat → ClassId) (base b : Nat) (v : Option Value) (h' : xHp) : Array Value → State → Outcome → State → Prop := fun _ st oc t => (oc = .returned (v.map (xc base b)) ∧ va_P D xCl (xw cA base b h') t.heap) ∧ va_F (xA base) st t
theorem xPc_blind {D : va_G} {cA : Nat → ClassId} {base b : Nat} {h : xHp} {as : List Value} : FrameBlind (xPc D cA base b h as) := fun _ _ _ _ z => z
theorem xNest_warm {s U : State} (hW : s.WarmedH U.vm) (h : xNest s) : xNest U := fun q hq => (h q hq).warmM hW
theorem xgw_good : GoodIn xgw xgw := fun w hw => ⟨hw, good_of_word (List.mem_filter.mp hw).2⟩
theorem xWs_good {k : Nat} (h0 : 0 < k) (hk : k < xnM) : GoodIn xgw (xWs k) := fun w hw => by
  rcases List.mem_cons.mp hw with rfl | h
  · exact xgw_good _ (f_code h0 hk)
  · exact xgw_good _ h
def xCtx (p : Program) (R : Room) (s : State) (m : MethodId) (args : Array Value) (meth : Method) (c : Code) (D : va_G) (cA : Nat → ClassId) (base b n0 : Nat) (scr : xScr) (j d : Nat) : Prop :=
  p.tables.exec = Jvm.exec ∧ c.code = xB j ∧ c.maxLocals = xnL j ∧ s.vm.findClass (xON (xO j)) = some m.cls ∧ (∀ ci, xIni j = some ci → meth.name = "<init>" ∧ xCN ci = xON (xO j)) ∧ (∀ w ∈ xgw, w.before args s = true) ∧ va_K D xCl (xtys cA) s ∧ xNest s ∧ va_AO xSTn s ∧ s.heap.size = base + n0 ∧
  (∀ q, scr = some q → va_X b q.1 q.2 s s.heap ∧ b < base) ∧ d + 1 ≤ R.frames ∧ 40 * (d + 1) ≤ R.locals
def xWA (p : Program) (l : Launch) (e : Env) (R : Room) (s : State) (m : MethodId) (args : Array Value) (below : List Frame) (meth : Method) (c : Code) (D : va_G) (cA : Nat → ClassId) (base b n0 s0 : Nat) (Q : State → Prop) (j : Nat) (f : xCf) : Prop :=
  ∀ (H : Heap) (la : Array Slot) (locs : List Loc) (cells slots : Nat), xlh base b (xnL j) la f.2.1 → va_P D xCl (xw cA base b f.2.2.2) H → va_S (xA base) s.heap H locs → cells + n0 = f.2.2.2.1.length → slots + s0 = xsl f.2.2.2.1 →
    W p l e R s m args below meth c H locs cells slots Q (F0 m f.1 la (f.2.2.1.map (xc base b)))
section XS
variable {p : Program} {l : Launch} {e : Env} {R : Room} {s : State} {m : MethodId} {args : Array Value} {below : List Frame} {meth : Method} {c : Code} {Q : State → Prop} {D : va_G} {cA : Nat → ClassId} {base b n0 s0 d j pc pc' k : Nat} {scr : xScr} {ls : xLs} {st : List Value} {h : xHp} {f' : xCf}
theorem x_size {H : Heap} {locs : List Loc} {cells slots : Nat} {g : JFrame} (k : H.size ≤ s.heap.size + cells → W p l e R s m args below meth c H locs cells slots Q g) : W p l e R s m args below meth c H locs cells slots Q g :=
  fun T hT X => k (by have h := X.heapSize; rw [← hT]; exact h) T hT X
theorem s_go {st' : List Value} (hrow : ∀ (H : Heap) (la : Array Slot) (locs : List Loc) (cells slots : Nat), W p l e R s m args below meth c H locs cells slots Q (F0 m pc' la (st'.map (xc base b))) → W p l e R s m args below meth c H locs cells slots Q (F0 m pc la (st.map (xc base b)))) (ih : xWA p l e R s m args below meth c D cA base b n0 s0 Q j (pc', ls, st', h)) : xWA p l e R s m args below meth c D cA base b n0 s0 Q j (pc, ls, st, h) :=
  fun H la locs cells slots h1 h2 h3 h4 h5 => hrow H la locs cells slots (ih H la locs cells slots h1 h2 h3 h4 h5)
theorem s_ldI (hq : xldI k pc' ls st h = some (.inl f')) (hrow : ∀ (H : Heap) (la : Array Slot) (locs : List Loc) (cells slots : Nat) (x : Int32) (rest : List Value), la[k]? = some (.val (.int x)) → W p l e R s m args below meth c H locs cells slots Q (F0 m pc' la (.int x :: rest)) → W p l e R s m args below meth c H locs cells slots Q (F0 m pc la rest)) (ih : xWA p l e R s m args below meth c D cA base b n0 s0 Q j f') : xWA p l e R s m args below meth c D cA base b n0 s0 Q j (pc, ls, st, h) := by
  obtain ⟨x, hl, e1⟩ := xldI_inv hq
  cases e1
  exact fun H la locs cells slots h1 h2 h3 h4 h5 => hrow H la locs cells slots x _ (xlh_at h1 hl) (ih H la locs cells slots h1 h2 h3 h4 h5)
theorem s_ldL (hq : xldL k pc' ls st h = some (.inl f')) (hrow : ∀ (H : Heap) (la : Array Slot) (locs : List Loc) (cells slots : Nat) (x : Int64) (rest : List Value), la[k]? = some (.val (.long x)) → W p l e R s m args below meth c H locs cells slots Q (F0 m pc' la (.long x :: rest)) → W p l e R s m args below meth c H locs cells slots Q (F0 m pc la rest)) (ih : xWA p l e R s m args below meth c D cA base b n0 s0 Q j f') : xWA p l e R s m args below meth c D cA base b n0 s0 Q j (pc, ls, st, h) := by
  obtain ⟨x, hl, e1⟩ := xldL_inv hq
  cases e1
  exact fun H la locs cells slots h1 h2 h3 h4 h5 => hrow H la locs cells slots x _ (xlh_at h1 hl) (ih H la locs cells slots h1 h2 h3 h4 h5)
theorem s_ldA (hq : xldA k pc' ls st h = some (.inl f')) (hrow : ∀ (H : Heap) (la : Array Slot) (locs : List Loc) (cells slots : Nat) (x : Nat) (rest : List Value), la[k]? = some (.val (.ref x)) → W p l e R s m args below meth c H locs cells slots Q (F0 m pc' la (.ref x :: rest)) → W p l e R s m args below meth c H locs cells slots Q (F0 m pc la rest)) (ih : xWA p l e R s m args below meth c D cA base b n0 s0 Q j f') : xWA p l e R s m args below meth c D cA base b n0 s0 Q j (pc, ls, st, h) := by
  obtain ⟨x, hl, e1⟩ := xldA_inv hq
  cases e1
  exact fun H la locs cells slots h1 h2 h3 h4 h5 => hrow H la locs cells slots (xa base b x) _ (xlh_at h1 hl) (ih H la locs cells slots h1 h2 h3 h4 h5)
theorem xok_lt {ls : xLs} {k : Nat} (h : xok ls k = true) : k < ls.length := by
  simp only [xok, Bool.and_eq_true, decide_eq_true_eq] at h
  exact h.1
theorem s_stI (hq : xstI k pc' ls st h = some (.inl f')) (hrow : ∀ (H : Heap) (la : Array Slot) (locs : List Loc) (cells slots : Nat) (x : Int32) (rest : List Value) (lv : List (Nat × Value)), lv_has la (xnL j) lv → k < xnL j → (∀ la' : Array Slot, lv_has la' (xnL j) ((k, .int x) :: lv.filter (fun q => !(q.1 == k) && !(q.1 + 1 == k && q.2.category == 2))) → W p l e R s m args below meth c H locs cells slots Q (F0 m pc' la' rest)) → W p l e R s m args below meth c H locs cells slots Q (F0 m pc la (.int x :: rest))) (ih : xWA p l e R s m args below meth c D cA base b n0 s0 Q j f') : xWA p l e R s m args below meth c D cA base b n0 s0 Q j (pc, ls, st, h) := by
  obtain ⟨x, st', hk, rfl, e1⟩ := xstI_inv hq
  cases e1
  exact fun H la locs cells slots h1 h2 h3 h4 h5 => hrow H la locs cells slots x _ _ h1.1 (h1.2 ▸ xok_lt hk) (fun la' hl => ih H la' locs cells slots (xlh_set1 (v := .int x) hk h1.2 hl) h2 h3 h4 h5)
theorem s_stA (hq : xstA k pc' ls st h = some (.inl f')) (hrow : ∀ (H : Heap) (la : Array Slot) (locs : List Loc) (cells slots : Nat) (x : Nat) (rest : List Value) (lv : List (Nat × Value)), lv_has la (xnL j) lv → k < xnL j → (∀ la' : Array Slot, lv_has la' (xnL j) ((k, .ref x) :: lv.filter (fun q => !(q.1 == k) && !(q.1 + 1 == k && q.2.category == 2))) → W p l e R s m args below meth c H locs cells slots Q (F0 m pc' la' rest)) → W p l e R s m args below meth c H locs cells slots Q (F0 m pc la (.ref x :: rest))) (ih : xWA p l e R s m args below meth c D cA base b n0 s0 Q j f') : xWA p l e R s m args below meth c D cA base b n0 s0 Q j (pc, ls, st, h) := by
  obtain ⟨x, st', hk, rfl, e1⟩ := xstA_inv hq
  cases e1
  exact fun H la locs cells slots h1 h2 h3 h4 h5 => hrow H la locs cells slots (xa base b x) _ _ h1.1 (h1.2 ▸ xok_lt hk) (fun la' hl => ih H la' locs cells slots (xlh_set1 (v := .ref x) hk h1.2 hl) h2 h3 h4 h5)
theorem s_stL (hq : xstL k pc' ls st h = some (.inl f')) (hrow : ∀ (H : Heap) (la : Array Slot) (locs : List Loc) (cells slots : Nat) (x : Int64) (rest : List Value) (lv : List (Nat × Value)), lv_has la (xnL j) lv → k + 1 < xnL j → (∀ la' : Array Slot, lv_has la' (xnL j) ((k, .long x) :: lv.filter (fun q => !(q.1 == k) && (!(q.1 == k + 1) && !(q.1 + 1 == k && q.2.category == 2)))) → W p l e R s m args below meth c H locs cells slots Q (F0 m pc' la' rest)) → W p l e R s m args below meth c H locs cells slots Q (F0 m pc la (.long x :: rest))) (ih : xWA p l e R s m args below meth c D cA base b n0 s0 Q j f') : xWA p l e R s m args below meth c D cA base b n0 s0 Q j (pc, ls, st, h) := by
  obtain ⟨x, st', hk, hk2, rfl, e1⟩ := xstL_inv hq
  cases e1
  exact fun H la locs cells slots h1 h2 h3 h4 h5 => hrow H la locs cells slots x _ _ h1.1 (h1.2 ▸ hk2) (fun la' hl => ih H la' locs cells slots (xlh_set2 (v := .long x) hk hk2 h1.2 hl) h2 h3 h4 h5)
theorem s_inc {v : Int} (hx : p.tables.exec = Jvm.exec) (hb : c.code = xB j) (hdg : decode (xB j) pc = .ok (.iinc k v, 3)) (hq : xinc k v (pc + 3) ls st h = some (.inl f')) (ih : xWA p l e R s m args below meth c D cA base b n0 s0 Q j f') : xWA p l e R s m args below meth c D cA base b n0 s0 Q j (pc, ls, st, h) := by
  obtain ⟨x, hl, hk, e1⟩ := xinc_inv hq
  cases e1
  intro H la locs cells slots h1 h2 h3 h4 h5
  obtain ⟨i, hi⟩ := List.getElem?_of_mem (xlv_mem.mpr ⟨_, hl, rfl⟩ : (k, xc base b (.int x)) ∈ xlv base b ls)
  exact lv_iinc (k := i) (x := x) hx hb hdg h1.1 hi rfl (h1.2 ▸ xok_lt hk) rfl (fun la' hl' => ih H la' locs cells slots (xlh_set1 (v := .int (x + Int32.ofInt v)) hk h1.2 hl') h2 h3 h4 h5)
theorem s_I1 {f : Int32 → Int32} (hq : xI1 f pc' ls st h = some (.inl f')) (hrow : ∀ (H : Heap) (la : Array Slot) (locs : List Loc) (cells slots : Nat) (x : Int32) (rest : List Value), W p l e R s m args below meth c H locs cells slots Q (F0 m pc' la (.int (f x) :: rest)) → W p l e R s m args below meth c H locs cells slots Q (F0 m pc la (.int x :: rest))) (ih : xWA p l e R s m args below meth c D cA base b n0 s0 Q j f') : xWA p l e R s m args below meth c D cA base b n0 s0 Q j (pc, ls, st, h) := by
  obtain ⟨x, st', rfl, e1⟩ := xI1_inv hq
  cases e1
  exact fun H la locs cells slots h1 h2 h3 h4 h5 => hrow H la locs cells slots x _ (ih H la locs cells slots h1 h2 h3 h4 h5)
theorem s_IL {f : Int32 → Int64} (hq : xIL f pc' ls st h = some (.inl f')) (hrow : ∀ (H : Heap) (la : Array Slot) (locs : List Loc) (cells slots : Nat) (x : Int32) (rest : List Value), W p l e R s m args below meth c H locs cells slots Q (F0 m pc' la (.long (f x) :: rest)) → W p l e R s m args below meth c H locs cells slots Q (F0 m pc la (.int x :: rest))) (ih : xWA p l e R s m args below meth c D cA base b n0 s0 Q j f') : xWA p l e R s m args below meth c D cA base b n0 s0 Q j (pc, ls, st, h) := by
  obtain ⟨x, st', rfl, e1⟩ := xIL_inv hq
  cases e1
  exact fun H la locs cells slots h1 h2 h3 h4 h5 => hrow H la locs cells slots x _ (ih H la locs cells slots h1 h2 h3 h4 h5)
theorem s_LI {f : Int64 → Int32} (hq : xLI f pc' ls st h = some (.inl f')) (hrow : ∀ (H : Heap) (la : Array Slot) (locs : List Loc) (cells slots : Nat) (x : Int64) (rest : List Value), W p l e R s m args below meth c H locs cells slots Q (F0 m pc' la (.int (f x) :: rest)) → W p l e R s m args below meth c H locs cells slots Q (F0 m pc la (.long x :: rest))) (ih : xWA p l e R s m args below meth c D cA base b n0 s0 Q j f') : xWA p l e R s m args below meth c D cA base b n0 s0 Q j (pc, ls, st, h) := by
  obtain ⟨x, st', rfl, e1⟩ := xLI_inv hq
  cases e1
  exact fun H la locs cells slots h1 h2 h3 h4 h5 => hrow H la locs cells slots x _ (ih H la locs cells slots h1 h2 h3 h4 h5)
theorem s_I2 {f : Int32 → Int32 → Int32} (hq : xI2 f pc' ls st h = some (.inl f')) (hrow : ∀ (H : Heap) (la : Array Slot) (locs : List Loc) (cells slots : Nat) (x y : Int32) (rest : List Value), W p l e R s m args below meth c H locs cells slots Q (F0 m pc' la (.int (f x y) :: rest)) → W p l e R s m args below meth c H locs cells slots Q (F0 m pc la (.int y :: .int x :: rest))) (ih : xWA p l e R s m args below meth c D cA base b n0 s0 Q j f') : xWA p l e R s m args below meth c D cA base b n0 s0 Q j (pc, ls, st, h) := by
  obtain ⟨x, y, st', rfl, e1⟩ := xI2_inv hq
  cases e1
  exact fun H la locs cells slots h1 h2 h3 h4 h5 => hrow H la locs cells slots x y _ (ih H la locs cells slots h1 h2 h3 h4 h5)
theorem s_ID {f : Int32 → Int32 → Int32} (hq : xID f pc' ls st h = some (.inl f')) (hrow : ∀ (H : Heap) (la : Array Slot) (locs : List Loc) (cells slots : Nat) (x y : Int32) (rest : List Value), ¬ y = 0 → W p l e R s m args below meth c H locs cells slots Q (F0 m pc' la (.int (f x y) :: rest)) → W p l e R s m args below meth c H locs cells slots Q (F0 m pc la (.int y :: .int x :: rest))) (ih : xWA p l e R s m args below meth c D cA base b n0 s0 Q j f') : xWA p l e R s m args below meth c D cA base b n0 s0 Q j (pc, ls, st, h) := by
  obtain ⟨x, y, st', hy, rfl, e1⟩ := xID_inv hq
  cases e1
  exact fun H la locs cells slots h1 h2 h3 h4 h5 => hrow H la locs cells slots x y _ hy (ih H la locs cells slots h1 h2 h3 h4 h5)
theorem s_L2 {f : Int64 → Int64 → Int64} (hq : xL2 f pc' ls st h = some (.inl f')) (hrow : ∀ (H : Heap) (la : Array Slot) (locs : List Loc) (cells slots : Nat) (x y : Int64) (rest : List Value), W p l e R s m args below meth c H locs cells slots Q (F0 m pc' la (.long (f x y) :: rest)) → W p l e R s m args below meth c H locs cells slots Q (F0 m pc la (.long y :: .long x :: rest))) (ih : xWA p l e R s m args below meth c D cA base b n0 s0 Q j f') : xWA p l e R s m args below meth c D cA base b n0 s0 Q j (pc, ls, st, h) := by
  obtain ⟨x, y, st', rfl, e1⟩ := xL2_inv hq
  cases e1
  exact fun H la locs cells slots h1 h2 h3 h4 h5 => hrow H la locs cells slots x y _ (ih H la locs cells slots h1 h2 h3 h4 h5)
theorem s_LC (hq : xLC pc' ls st h = some (.inl f')) (hrow : ∀ (H : Heap) (la : Array Slot) (locs : List Loc) (cells slots : Nat) (x y : Int64) (rest : List Value), W p l e R s m args below meth c H locs cells slots Q (F0 m pc' la (.int (lg_cmp x y) :: rest)) → W p l e R s m args below meth c H locs cells slots Q (F0 m pc la (.long y :: .long x :: rest))) (ih : xWA p l e R s m args below meth c D cA base b n0 s0 Q j f') : xWA p l e R s m args below meth c D cA base b n0 s0 Q j (pc, ls, st, h) := by
  obtain ⟨x, y, st', rfl, e1⟩ := xLC_inv hq
  cases e1
  exact fun H la locs cells slots h1 h2 h3 h4 h5 => hrow H la locs cells slots x y _ (ih H la locs cells slots h1 h2 h3 h4 h5)
theorem s_LS {f : Int64 → Int32 → Int64} (hq : xLS f pc' ls st h = some (.inl f')) (hrow : ∀ (H : Heap) (la : Array Slot) (locs : List Loc) (cells slots : Nat) (x : Int64) (y : Int32) (rest : List Value), W p l e R s m args below meth c H locs cells slots Q (F0 m pc' la (.long (f x y) :: rest)) → W p l e R s m args below meth c H locs cells slots Q (F0 m pc la (.int y :: .long x :: rest))) (ih : xWA p l e R s m args below meth c D cA base b n0 s0 Q j f') : xWA p l e R s m args below meth c D cA base b n0 s0 Q j (pc, ls, st, h) := by
  obtain ⟨x, y, st', rfl, e1⟩ := xLS_inv hq
  cases e1
  exact fun H la locs cells slots h1 h2 h3 h4 h5 => hrow H la locs cells slots x y _ (ih H la locs cells slots h1 h2 h3 h4 h5)
theorem s_dup (hq : xdup pc' ls st h = some (.inl f')) (hrow : ∀ (H : Heap) (la : Array Slot) (locs : List Loc) (cells slots : Nat) (v : Value) (rest : List Value), v.category = 1 → W p l e R s m args below meth c H locs cells slots Q (F0 m pc' la (v :: v :: rest)) → W p l e R s m args below meth c H locs cells slots Q (F0 m pc la (v :: rest))) (ih : xWA p l e R s m args below meth c D cA base b n0 s0 Q j f') : xWA p l e R s m args below meth c D cA base b n0 s0 Q j (pc, ls, st, h) := by
  obtain ⟨v, st', hv, rfl, e1⟩ := xdup_inv hq
  cases e1
  exact fun H la locs cells slots h1 h2 h3 h4 h5 => hrow H la locs cells slots (xc base b v) _ ((xc_cat base b v).trans hv) (ih H la locs cells slots h1 h2 h3 h4 h5)
theorem s_dup2 (hq : xdup2 pc' ls st h = some (.inl f')) (hrow : ∀ (H : Heap) (la : Array Slot) (locs : List Loc) (cells slots : Nat) (v w : Value) (rest : List Value), v.category = 1 → w.category = 1 → W p l e R s m args below meth c H locs cells slots Q (F0 m pc' la (v :: w :: v :: w :: rest)) → W p l e R s m args below meth c H locs cells slots Q (F0 m pc la (v :: w :: rest))) (ih : xWA p l e R s m args below meth c D cA base b n0 s0 Q j f') : xWA p l e R s m args below meth c D cA base b n0 s0 Q j (pc, ls, st, h) := by
  obtain ⟨v, w, st', hv, hw, rfl, e1⟩ := xdup2_inv hq
  cases e1
  exact fun H la locs cells slots h1 h2 h3 h4 h5 => hrow H la locs cells slots (xc base b v) (xc base b w) _ ((xc_cat base b v).trans hv) ((xc_cat base b w).trans hw) (ih H la locs cells slots h1 h2 h3 h4 h5)
theorem s_j {off : Int} (hq : xj pc off ls st h = some (.inl f')) {st0 : List Value} (hrow : ∀ (tgt : Nat), (pc : Int) + off = (tgt : Int) → ∀ (H : Heap) (la : Array Slot) (locs : List Loc) (cells slots : Nat), W p l e R s m args below meth c H locs cells slots Q (F0 m tgt la (st.map (xc base b))) → W p l e R s m args below meth c H locs cells slots Q (F0 m pc la (st0.map (xc base b)))) (ih : xWA p l e R s m args below meth c D cA base b n0 s0 Q j f') : xWA p l e R s m args below meth c D cA base b n0 s0 Q j (pc, ls, st0, h) := by
  obtain ⟨tgt, ht, e1⟩ := xj_inv hq
  cases e1
  exact fun H la locs cells slots h1 h2 h3 h4 h5 => hrow tgt ht H la locs cells slots (ih H la locs cells slots h1 h2 h3 h4 h5)
theorem s_if {cd : ClassFile.Cond} {x y : Int32} {off : Int} (hq : xif cd x y off pc ls st h = some (.inl f')) {st0 : List Value} (hrow : ∀ (tgt : Nat), (pc : Int) + off = (tgt : Int) → ∀ (H : Heap) (la : Array Slot) (locs : List Loc) (cells slots : Nat), (xcond cd x y = true → W p l e R s m args below meth c H locs cells slots Q (F0 m tgt la (st.map (xc base b)))) → (xcond cd x y = false → W p l e R s m args below meth c H locs cells slots Q (F0 m (pc + 3) la (st.map (xc base b)))) → W p l e R s m args below meth c H locs cells slots Q (F0 m pc la (st0.map (xc base b)))) (ih : xWA p l e R s m args below meth c D cA base b n0 s0 Q j f') : xWA p l e R s m args below meth c D cA base b n0 s0 Q j (pc, ls, st0, h) := by
  obtain ⟨tgt, ht, ⟨hh, e1⟩ | ⟨hh, e1⟩⟩ := xif_inv hq
  · cases e1
    exact fun H la locs cells slots h1 h2 h3 h4 h5 => hrow tgt ht H la locs cells slots (fun _ => ih H la locs cells slots h1 h2 h3 h4 h5) (fun z => by rw [hh] at z; cases z)
  · cases e1
    exact fun H la locs cells slots h1 h2 h3 h4 h5 => hrow tgt ht H la locs cells slots (fun z => by rw [hh] at z; cases z) (fun _ => ih H la locs cells slots h1 h2 h3 h4 h5)
theorem s_if0 {cd : ClassFile.Cond} {off : Int} (hx : p.tables.exec = Jvm.exec) (hb : c.code = xB j) (hdg : decode (xB j) pc = .ok (.ifCond cd off, 3)) (hq : xif0 cd off pc ls st h = some (.inl f')) (ih : xWA p l e R s m args below meth c D cA base b n0 s0 Q j f') : xWA p l e R s m args below meth c D cA base b n0 s0 Q j (pc, ls, st, h) := by
  obtain ⟨x, st', rfl, hq⟩ := xif0_inv hq
  refine s_if hq (fun tgt ht H la locs cells slots k1 k2 => ?_) ih
  cases cd
  · exact lv_if_eq hx hb hdg ht (fun z => k1 (decide_eq_true z)) (fun z => k2 (decide_eq_false z))
  · exact lv_if_ne hx hb hdg ht (fun z => k1 (decide_eq_true z)) (fun z => k2 (decide_eq_false fun n => n z))
  · exact lv_if_lt hx hb hdg ht (fun z => k1 (decide_eq_true z)) (fun z => k2 (decide_eq_false z))
  · exact lv_if_ge hx hb hdg ht (fun z => k1 (decide_eq_true z)) (fun z => k2 (decide_eq_false z))
  · exact lv_if_gt hx hb hdg ht (fun z => k1 (decide_eq_true z)) (fun z => k2 (decide_eq_false z))
  · exact lv_if_le hx hb hdg ht (fun z => k1 (decide_eq_true z)) (fun z => k2 (decide_eq_false z))
theorem s_if2 {cd : ClassFile.Cond} {off : Int} (hx : p.tables.exec = Jvm.exec) (hb : c.code = xB j) (hdg : decode (xB j) pc = .ok (.if_icmp cd off, 3)) (hq : xif2 cd off pc ls st h = some (.inl f')) (ih : xWA p l e R s m args below meth c D cA base b n0 s0 Q j f') : xWA p l e R s m args below meth c D cA base b n0 s0 Q j (pc, ls, st, h) := by
  obtain ⟨x, y, st', rfl, hq⟩ := xif2_inv hq
  refine s_if hq (fun tgt ht H la locs cells slots k1 k2 => ?_) ih
  cases cd
  · exact lv_icmp_eq hx hb hdg ht (fun z => k1 (decide_eq_true z)) (fun z => k2 (decide_eq_false z))
  · exact lv_icmp_ne hx hb hdg ht (fun z => k1 (decide_eq_true z)) (fun z => k2 (decide_eq_false fun n => n z))
  · exact lv_icmp_lt hx hb hdg ht (fun z => k1 (decide_eq_true z)) (fun z => k2 (decide_eq_false z))
  · exact lv_icmp_ge hx hb hdg ht (fun z => k1 (decide_eq_true z)) (fun z => k2 (decide_eq_false z))
  · exact lv_icmp_gt hx hb hdg ht (fun z => k1 (decide_eq_true z)) (fun z => k2 (decide_eq_false z))
  · exact lv_icmp_le hx hb hdg ht (fun z => k1 (decide_eq_true z)) (fun z => k2 (decide_eq_false z))
theorem s_tab {dflt lo hi : Int} {offs : Array Int} {n : Nat} (hx : p.tables.exec = Jvm.exec) (hb : c.code = xB j) (hdg : decode (xB j) pc = .ok (.tableswitch dflt lo hi offs, n)) (hq : xtab dflt lo hi offs pc ls st h = some (.inl f')) (ih : xWA p l e R s m args below meth c D cA base b n0 s0 Q j f') : xWA p l e R s m args below meth c D cA base b n0 s0 Q j (pc, ls, st, h) := by
  obtain ⟨x, st', rfl, ⟨hh, hq⟩ | ⟨h1, h2, off, ho, hq⟩⟩ := xtab_inv hq
  · exact s_j hq (fun tgt ht H la locs cells slots k => lv_tableOut hx hb hdg hh ht k) ih
  · exact s_j hq (fun tgt ht H la locs cells slots k => lv_tableIn hx hb hdg h1 h2 ho ht k) ih
theorem s_look {dflt : Int} {ps : Array (Int × Int)} {n : Nat} (hx : p.tables.exec = Jvm.exec) (hb : c.code = xB j) (hdg : decode (xB j) pc = .ok (.lookupswitch dflt ps, n)) (hq : xlook dflt ps pc ls st h = some (.inl f')) (ih : xWA p l e R s m args below meth c D cA base b n0 s0 Q j f') : xWA p l e R s m args below meth c D cA base b n0 s0 Q j (pc, ls, st, h) := by
  obtain ⟨x, st', rfl, hh, hq⟩ := xlook_inv hq
  exact s_j hq (fun tgt ht H la locs cells slots k => lv_lookup hx hb hdg hh rfl ht k) ih
end XS
end
section
theorem xsl_new (tag n : Nat) (h : xHp) : xsl (xnew tag n h).1 = xsl h.1 + n := by
  show xsl (h.1 ++ [(tag, n)]) = _
  rw [xsl_app]
  simp [xsl]
theorem xlen_new (tag n : Nat) (h : xHp) : (xnew tag n h).1.length = h.1.length + 1 := by
  show (h.1 ++ [(tag, n)]).length = _
  simp
theorem xRA_eq {U : State} {c1 c2 : ClassId} {ty : FieldType} (h1 : va_RA U c1 ty) (h2 : va_RA U c2 ty) : c1 = c2 := by
  cases ty with
  | object C =>
    obtain ⟨_, _, _, _, _, f1⟩ := h1
    obtain ⟨_, _, _, _, _, f2⟩ := h2
    exact Option.some.inj (f1.symm.trans f2)
  | _ => exact Option.some.inj (Eq.trans (Eq.symm h1) h2)
theorem xput_fit {base b ci k a : Nat} {v : Value} {h h' : xHp} (hci : ci < 7) (hk : k < xNF ci) (hp : xputv (xFK ci k) k v a h = some h') : narrow (xty ci k) (xc base b v) = xc base b v ∧ fits (xty ci k) (xc base b v) = true := by
  rcases f_tk hci hk with ⟨e1, e2⟩ | ⟨e1, e2⟩ | ⟨e1, e2⟩ | ⟨e1, e2⟩
  · rw [e1] at hp
    rw [e2]
    cases v <;> first | exact x_no hp | exact ⟨rfl, rfl⟩
  · rw [e1] at hp
    rw [e2]
    cases v with
    | int x =>
      by_cases hx : x = 0 ∨ x = 1
      · rcases hx with rfl | rfl <;> exact ⟨rfl, rfl⟩
      · simp [xputv, hx] at hp
    | _ => exact x_no hp
  · rw [e1] at hp
    rw [e2]
    cases v <;> first | exact x_no hp | exact ⟨rfl, rfl⟩
  · rw [e1] at hp
    cases hty : xty ci k <;> rw [hty] at e2 <;> first | (cases e2; done) | (cases v <;> first | exact x_no hp | exact ⟨rfl, rfl⟩)
section XH
variable {p : Program} {l : Launch} {e : Env} {R : Room} {s : State} {m : MethodId} {args : Array Value} {below : List Frame} {meth : Method} {c : Code} {Q : State → Prop} {D : va_G} {cA : Nat → ClassId} {base b n0 s0 d j pc pc' k i : Nat} {scr : xScr} {ls : xLs} {st : List Value} {h : xHp} {f' : xCf}
theorem s_getf (hc : xCtx p R s m args meth c D cA base b n0 scr j d) (hdg : decode (xB j) pc = .ok (.getfield i, 3)) (hm : h.1.length ≤ xS) (hq : xgetf (xlF (xO j) i) (pc + 3) ls st h = some (.inl f')) (ih : xWA p l e R s m args below meth c D cA base b n0 s0 Q j f') : xWA p l e R s m args below meth c D cA base b n0 s0 Q j (pc, ls, st, h) := by
  obtain ⟨hx, hb, -, hown, -, hts, hK, -⟩ := hc
  obtain ⟨ci, k, a, st', ⟨tg, tn⟩, hF, rfl, ht, e1, e2, er⟩ := xgetf_inv hq
  cases er
  dsimp only at e1 e2
  subst e1
  obtain ⟨hci, hk, hlk⟩ := f_F hF
  intro H la locs cells slots h1 h2 h3 h4 h5
  have he := xw_get (cA := cA) (base := base) (b := b) ht
  have hg : W p l e R s m args below meth c H locs cells slots Q (F0 m pc la (.ref (base + a) :: st'.map (xc base b))) :=
    va_get (D := D) (ci := ci) (v := xc base b (xfv h a k (xFK ci k))) (C := xCN ci) (T := xT ci) (N := xNF ci) hx hb hts (f_lay hci) hown hK h2 a he (f_cl hci) k hk (hts _ hlk) (fun _ z => z) (xf_get e2) hdg (ih H la locs cells slots h1 h2 h3 h4 h5)
  rw [← xa_in (b := b) ht hm] at hg
  exact hg
theorem s_putf (hc : xCtx p R s m args meth c D cA base b n0 scr j d) (hdg : decode (xB j) pc = .ok (.putfield i, 3)) (hm : h.1.length ≤ xS) (hq : xputf j (xlF (xO j) i) (pc + 3) ls st h = some (.inl f')) (ih : xWA p l e R s m args below meth c D cA base b n0 s0 Q j f') : xWA p l e R s m args below meth c D cA base b n0 s0 Q j (pc, ls, st, h) := by
  obtain ⟨hx, hb, -, hown, hin, hts, hK, -⟩ := hc
  obtain ⟨ci, k, v, a, st', ⟨tg, tn⟩, h', hF, rfl, ht, hp, e1, e2, hfin, er⟩ := xputf_inv hq
  cases er
  dsimp only at e1 e2
  subst e1
  obtain ⟨hci, hk, hlk⟩ := f_F hF
  obtain ⟨hn, hfit⟩ := xput_fit (base := base) (b := b) hci hk hp
  intro H la locs cells slots h1 h2 h3 h4 h5
  have he := xw_get (cA := cA) (base := base) (b := b) ht
  have ho := xputv_off hp
  have kk : ∀ (H1 : Heap) (locs1 : List Loc), va_P D xCl ((xw cA base b h).set a (base + a, .inr (ci, ((List.range tn).map (fun i => xfw base b h a i (xFK ci i))).set k (xc base b v)))) H1 → va_D (xA base) ((xw cA base b h).set a (base + a, .inr (ci, ((List.range tn).map (fun i => xfw base b h a i (xFK ci i))).set k (xc base b v)))) → va_S (xA base) s.heap H1 locs1 → W p l e R s m args below meth c H1 locs1 cells slots Q (F0 m (pc + 3) la (st'.map (xc base b))) := fun H1 locs1 g1 _ g3 => by
    rw [xw_set ht ho (by rw [xf_set hp]; rfl)] at g1
    exact ih H1 la locs1 cells slots h1 g1 g3 (by show cells + n0 = h'.1.length; rw [ho.1]; exact h4) (by show slots + s0 = xsl h'.1; rw [ho.1]; exact h5)
  have hg : W p l e R s m args below meth c H locs cells slots Q (F0 m pc la (xc base b v :: .ref (base + a) :: st'.map (xc base b))) := by
    cases hf : xFn ci k with
    | false => exact va_put (D := D) (ci := ci) (v := xc base b v) (ty := xty ci k) (C := xCN ci) (T := xT ci) (N := xNF ci) hx hb hts (f_lay hci) (xty ci) (fun k hk => f_ty hci hk) (f_nm hci) hown hK h2 (xw_D cA base b h) h3 a he (f_cl hci) k hk (hts _ hlk) (fun _ z => z) hf (f_ty hci hk) hn hfit (by simpa using e2) hdg kk
    | true => exact va_putF (D := D) (ci := ci) (v := xc base b v) (ty := xty ci k) (C := xCN ci) (T := xT ci) (N := xNF ci) hx hb hts (f_lay hci) (xty ci) (fun k hk => f_ty hci hk) (f_nm hci) hown hK h2 (xw_D cA base b h) h3 a he (f_cl hci) k hk (hts _ hlk) (fun _ z => z) hf (hin ci (hfin hf)).1 (hin ci (hfin hf)).2 (f_ty hci hk) hn hfit (by simpa using e2) hdg kk
  rw [← xa_in (b := b) ht hm] at hg
  exact hg
theorem s_newc (hc : xCtx p R s m args meth c D cA base b n0 scr j d) (hdg : decode (xB j) pc = .ok (.new i, 3)) (hm : f'.2.2.2.1.length ≤ xS) (hn : f'.2.2.2.1.length ≤ n0 + R.cells) (hs : xsl f'.2.2.2.1 ≤ s0 + R.slots) (hq : xnewc (xlC (xO j) i) (pc + 3) ls st h = some (.inl f')) (ih : xWA p l e R s m args below meth c D cA base b n0 s0 Q j f') : xWA p l e R s m args below meth c D cA base b n0 s0 Q j (pc, ls, st, h) := by
  obtain ⟨hx, hb, -, hown, -, hts, hK, -, -, hsz, -⟩ := hc
  obtain ⟨ci, n, hC, er⟩ := xnewc_inv hq
  cases er
  obtain ⟨hci, rfl, hl, hin, hini⟩ := f_C hC
  dsimp only at hm hn hs
  rw [xlen_new] at hm hn
  rw [xsl_new] at hs
  intro H la locs cells slots h1 h2 h3 h4 h5
  have c1 : cells + n0 = h.1.length := h4
  have c2 : slots + s0 = xsl h.1 := h5
  have e3 : xa base b h.1.length = base + h.1.length := if_neg (by omega)
  refine va_new (D := D) (ci := ci) (C := xCN ci) (T := xT ci) (N := xNF ci) (fs := (List.range (xNF ci)).map (fun k => xfw base b (xnew (ci + 4) (xNF ci) h) h.1.length k (xFK ci k))) hx hb hts (f_lay hci) (xty ci) (fun k hk => f_ty hci hk) hown (hts _ hl) (hts _ hin) (hts _ hini) hK h2 (xw_D cA base b h) h3 (fun q hq => ?_) (f_cl hci) (fun k hk => ?_) (by omega) (by omega) hdg (fun q H1 g1 g2 g3 => x_size fun z => ?_)
  · show base ≤ q
    omega
  · rw [vp_V, List.getD_eq_getElem?_getD, List.getElem?_map, List.getElem?_range hk, Option.map_some, Option.getD_some]
    rcases f_tk hci hk with ⟨e1, e2⟩ | ⟨e1, e2⟩ | ⟨e1, e2⟩ | ⟨e1, e2⟩
    · rw [e1, e2]; simp [xfw, xnew, xz, defaultValue]
    · rw [e1, e2]; simp [xfw, xnew, xz, defaultValue]
    · rw [e1, e2]; simp [xfw, xnew, xz, defaultValue]
    · rw [e1]
      cases hty : xty ci k <;> rw [hty] at e2 <;> first | (cases e2; done) | simp [xfw, xnew, xz, defaultValue, va_rf]
  · have hqe := xw_addr g1 g2 (by omega)
    subst hqe
    have g1' : va_P D xCl (xw cA base b (xnew (ci + 4) (xNF ci) h)) H1 := by rw [xw_new]; exact g1
    have key := ih H1 la locs (cells + 1) (slots + xNF ci) h1 g1' g3 (by show cells + 1 + n0 = (xnew (ci + 4) (xNF ci) h).1.length; rw [xlen_new]; omega) (by show slots + xNF ci + s0 = xsl (xnew (ci + 4) (xNF ci) h).1; rw [xsl_new]; omega)
    rw [← e3]
    exact key
theorem s_newa {tag : Nat} {atype : ClassFile.ArrayType} {ty : FieldType} (a0 : Nat → vp_A) (hc : xCtx p R s m args meth c D cA base b n0 scr j d) (harr : Cond.arrayClass (newarray.typeOf atype) ∈ xgw) (hty : newarray.typeOf atype = ty) (htag : (xtys cA)[tag]? = some (cA tag, ty)) (ha0 : ∀ (N : Nat) (c1 : ClassId), vp_cell c1 (a0 N) = arrV c1 N (fun _ => defaultValue ty)) (hxe : ∀ (N : Nat), xe cA base b (xnew tag N h) h.1.length (tag, N) = .inl (cA tag, a0 N)) (hby : componentBytes ty ≤ 8)
    (hdg : decode (xB j) pc = .ok (.newarray atype, 2)) (hm : f'.2.2.2.1.length ≤ xS) (hn : f'.2.2.2.1.length ≤ n0 + R.cells) (hs : xsl f'.2.2.2.1 ≤ s0 + R.slots) (hq : xnewa tag (pc + 2) ls st h = some (.inl f')) (ih : xWA p l e R s m args below meth c D cA base b n0 s0 Q j f') : xWA p l e R s m args below meth c D cA base b n0 s0 Q j (pc, ls, st, h) := by
  obtain ⟨hx, hb, -, hown, -, hts, hK, -, -, hsz, -⟩ := hc
  obtain ⟨n, st', rfl, hn0, hn1, er⟩ := xnewa_inv hq
  cases er
  dsimp only at hm hn hs
  rw [xlen_new] at hm hn
  rw [xsl_new] at hs
  intro H la locs cells slots h1 h2 h3 h4 h5
  have c1 : cells + n0 = h.1.length := h4
  have c2 : slots + s0 = xsl h.1 := h5
  have e3 : xa base b h.1.length = base + h.1.length := if_neg (by omega)
  refine va_newa (D := D) (a0 := a0 n.toNatClampNeg) (N' := n.toNatClampNeg) hx hb (hts _ harr) hty hK h2 (xw_D cA base b h) h3 (fun q hq => ?_) (ha0 _) hn0 rfl (Nat.le_trans (Nat.mul_le_mul hn1 hby) (by decide)) (by omega) (by omega) hdg (fun q c1' H1 gK g1 g2 g3 => x_size fun z => ?_)
  · show base ≤ q
    omega
  · have hqe := xw_addr g1 g2 (by omega)
    subst hqe
    have hcA : c1' = cA tag := xRA_eq (gK.2 (xtys cA).length _ (by rw [List.getElem?_append_right (Nat.le_refl _), Nat.sub_self]; rfl)).2 (hK.2 tag _ htag).2
    subst hcA
    have g1' : va_P D xCl (xw cA base b (xnew tag n.toNatClampNeg h)) H1 := by rw [xw_new, hxe]; exact g1
    have key := ih H1 la locs (cells + 1) (slots + n.toNatClampNeg) h1 g1' g3 (by show cells + 1 + n0 = (xnew tag n.toNatClampNeg h).1.length; rw [xlen_new]; omega) (by show slots + n.toNatClampNeg + s0 = xsl (xnew tag n.toNatClampNeg h).1; rw [xsl_new]; omega)
    rw [← e3]
    exact key
theorem s_newq (hc : xCtx p R s m args meth c D cA base b n0 scr j d) (hl : xlA (xO j) i = true)
    (hdg : decode (xB j) pc = .ok (.anewarray i, 3)) (hm : f'.2.2.2.1.length ≤ xS) (hn : f'.2.2.2.1.length ≤ n0 + R.cells) (hs : xsl f'.2.2.2.1 ≤ s0 + R.slots) (hq : xnewa 3 (pc + 3) ls st h = some (.inl f')) (ih : xWA p l e R s m args below meth c D cA base b n0 s0 Q j f') : xWA p l e R s m args below meth c D cA base b n0 s0 Q j (pc, ls, st, h) := by
  obtain ⟨hx, hb, -, hown, -, hts, hK, -, hAO, hsz, -⟩ := hc
  obtain ⟨n, st', rfl, hn0, hn1, er⟩ := xnewa_inv hq
  cases er
  dsimp only at hm hn hs
  rw [xlen_new] at hm hn
  rw [xsl_new] at hs
  intro H la locs cells slots h1 h2 h3 h4 h5
  have c1 : cells + n0 = h.1.length := h4
  have c2 : slots + s0 = xsl h.1 := h5
  have e3 : xa base b h.1.length = base + h.1.length := if_neg (by omega)
  refine va_newq (D := D) (C := xSTn) (N' := n.toNatClampNeg) hx hb hown (hts _ (f_A hl)) hAO hK h2 (xw_D cA base b h) h3 (fun q hq => ?_) hn0 rfl (Nat.le_trans (Nat.mul_le_mul hn1 (Nat.le_refl 4)) (by decide)) (by omega) (by omega) hdg (fun q c1' H1 gK g1 g2 g3 => x_size fun z => ?_)
  · show base ≤ q
    omega
  · have hqe := xw_addr g1 g2 (by omega)
    subst hqe
    have hcA : c1' = cA 3 := xRA_eq (gK.2 (xtys cA).length _ (by rw [List.getElem?_append_right (Nat.le_refl _), Nat.sub_self]; rfl)).2 (hK.2 3 (cA 3, .object xSTn) rfl).2
    subst hcA
    have hxe : xe cA base b (xnew 3 n.toNatClampNeg h) h.1.length (3, n.toNatClampNeg) = .inl (cA 3, n.toNatClampNeg, .inr (.inr (.inr (.inr (fun _ => none))))) := by simp [xe, xnew, xz]
    have g1' : va_P D xCl (xw cA base b (xnew 3 n.toNatClampNeg h)) H1 := by rw [xw_new, hxe]; exact g1
    have key := ih H1 la locs (cells + 1) (slots + n.toNatClampNeg) h1 g1' g3 (by show cells + 1 + n0 = (xnew 3 n.toNatClampNeg h).1.length; rw [xlen_new]; omega) (by show slots + n.toNatClampNeg + s0 = xsl (xnew 3 n.toNatClampNeg h).1; rw [xsl_new]; omega)
    rw [← e3]
    exact key
theorem s_len (hc : xCtx p R s m args meth c D cA base b n0 scr j d) (hdg : decode (xB j) pc = .ok (.arraylength, 1)) (hm : h.1.length ≤ xS) (hq : xlen scr (pc + 1) ls st h = some (.inl f')) (ih : xWA p l e R s m args below meth c D cA base b n0 s0 Q j f') : xWA p l e R s m args below meth c D cA base b n0 s0 Q j (pc, ls, st, h) := by
  obtain ⟨hx, hb, -, hown, -, hts, hK, -, hAO, hsz, hscr, -⟩ := hc
  obtain ⟨a, st', rfl, ⟨⟨tg, tn⟩, ht, e1, er⟩ | ⟨rfl, w, hw, er⟩⟩ := xlen_inv hq
  · cases er
    dsimp only at e1
    intro H la locs cells slots h1 h2 h3 h4 h5
    have he := xw_get (cA := cA) (base := base) (b := b) ht
    have hg : W p l e R s m args below meth c H locs cells slots Q (F0 m pc la (.ref (base + a) :: st'.map (xc base b))) := by
      obtain rfl | rfl | rfl | rfl : tg = 0 ∨ tg = 1 ∨ tg = 2 ∨ tg = 3 := by omega
      · exact va_alen (D := D) (tys := xtys cA) (ty := .int) hx hb hK h2 a 0 he rfl rfl hdg (ih H la locs cells slots h1 h2 h3 h4 h5)
      · exact va_alen (D := D) (tys := xtys cA) (ty := .boolean) hx hb hK h2 a 1 he rfl rfl hdg (ih H la locs cells slots h1 h2 h3 h4 h5)
      · exact va_alen (D := D) (tys := xtys cA) (ty := .long) hx hb hK h2 a 2 he rfl rfl hdg (ih H la locs cells slots h1 h2 h3 h4 h5)
      · exact va_alen (D := D) (tys := xtys cA) (ty := .object xSTn) hx hb hK h2 a 3 he rfl rfl hdg (ih H la locs cells slots h1 h2 h3 h4 h5)
    rw [← xa_in (b := b) ht hm] at hg
    exact hg
  · cases er
    obtain ⟨hX, hbb⟩ := hscr w hw
    intro H la locs cells slots h1 h2 h3 h4 h5
    have hg : W p l e R s m args below meth c H locs cells slots Q (F0 m pc la (.ref b :: st'.map (xc base b))) :=
      va_slen (A := xA base) (H0 := s.heap) hx hb hX (by omega) (by show ¬ base ≤ b; omega) h3 hdg (ih H la locs cells slots h1 h2 h3 h4 h5)
    have e3 : xa base b xS = b := if_pos rfl
    rw [← e3] at hg
    exact hg
theorem s_iald (hc : xCtx p R s m args meth c D cA base b n0 scr j d) (hdg : decode (xB j) pc = .ok (.iaload, 1)) (hm : h.1.length ≤ xS) (hq : xIaload scr (pc + 1) ls st h = some (.inl f')) (ih : xWA p l e R s m args below meth c D cA base b n0 s0 Q j f') : xWA p l e R s m args below meth c D cA base b n0 s0 Q j (pc, ls, st, h) := by
  obtain ⟨hx, hb, -, hown, -, hts, hK, -, hAO, hsz, hscr, -⟩ := hc
  obtain ⟨i, a, st', rfl, ⟨⟨tg, tn⟩, ht, e1, hin, er⟩ | ⟨rfl, w, hw, hin, er⟩⟩ := xIaload_inv hq
  · cases er
    dsimp only at e1 hin
    subst e1
    intro H la locs cells slots h1 h2 h3 h4 h5
    have hg : W p l e R s m args below meth c H locs cells slots Q (F0 m pc la (.int i :: .ref (base + a) :: st'.map (xc base b))) :=
      va_iald (D := D) (tys := xtys cA) hx hb hK h2 a 0 (xw_get (cA := cA) (base := base) (b := b) ht) rfl hin hdg (ih H la locs cells slots h1 h2 h3 h4 h5)
    rw [← xa_in (b := b) ht hm] at hg
    exact hg
  · cases er
    obtain ⟨hX, hbb⟩ := hscr w hw
    intro H la locs cells slots h1 h2 h3 h4 h5
    have hg : W p l e R s m args below meth c H locs cells slots Q (F0 m pc la (.int i :: .ref b :: st'.map (xc base b))) :=
      va_sld (A := xA base) (H0 := s.heap) hx hb hX (by omega) (by show ¬ base ≤ b; omega) h3 hin hdg (ih H la locs cells slots h1 h2 h3 h4 h5)
    have e3 : xa base b xS = b := if_pos rfl
    rw [← e3] at hg
    exact hg
theorem s_zald (hc : xCtx p R s m args meth c D cA base b n0 scr j d) (hdg : decode (xB j) pc = .ok (.baload, 1)) (hm : h.1.length ≤ xS) (hq : xBaload (pc + 1) ls st h = some (.inl f')) (ih : xWA p l e R s m args below meth c D cA base b n0 s0 Q j f') : xWA p l e R s m args below meth c D cA base b n0 s0 Q j (pc, ls, st, h) := by
  obtain ⟨hx, hb, -, hown, -, hts, hK, -⟩ := hc
  obtain ⟨i, a, st', ⟨tg, tn⟩, rfl, ht, e1, hin, er⟩ := xBaload_inv hq
  cases er
  dsimp only at e1 hin
  subst e1
  intro H la locs cells slots h1 h2 h3 h4 h5
  have hg : W p l e R s m args below meth c H locs cells slots Q (F0 m pc la (.int i :: .ref (base + a) :: st'.map (xc base b))) :=
    va_zald (D := D) (tys := xtys cA) hx hb hK h2 a 1 (xw_get (cA := cA) (base := base) (b := b) ht) rfl hin hdg (ih H la locs cells slots h1 h2 h3 h4 h5)
  rw [← xa_in (b := b) ht hm] at hg
  exact hg
theorem s_lald (hc : xCtx p R s m args meth c D cA base b n0 scr j d) (hdg : decode (xB j) pc = .ok (.laload, 1)) (hm : h.1.length ≤ xS) (hq : xLaload (pc + 1) ls st h = some (.inl f')) (ih : xWA p l e R s m args below meth c D cA base b n0 s0 Q j f') : xWA p l e R s m args below meth c D cA base b n0 s0 Q j (pc, ls, st, h) := by
  obtain ⟨hx, hb, -, hown, -, hts, hK, -⟩ := hc
  obtain ⟨i, a, st', ⟨tg, tn⟩, rfl, ht, e1, hin, er⟩ := xLaload_inv hq
  cases er
  dsimp only at e1 hin
  subst e1
  intro H la locs cells slots h1 h2 h3 h4 h5
  have hg : W p l e R s m args below meth c H locs cells slots Q (F0 m pc la (.int i :: .ref (base + a) :: st'.map (xc base b))) :=
    va_lald (D := D) (tys := xtys cA) hx hb hK h2 a 2 (xw_get (cA := cA) (base := base) (b := b) ht) rfl hin hdg (ih H la locs cells slots h1 h2 h3 h4 h5)
  rw [← xa_in (b := b) ht hm] at hg
  exact hg
theorem s_aald (hc : xCtx p R s m args meth c D cA base b n0 scr j d) (hdg : decode (xB j) pc = .ok (.aaload, 1)) (hm : h.1.length ≤ xS) (hq : xAaload (pc + 1) ls st h = some (.inl f')) (ih : xWA p l e R s m args below meth c D cA base b n0 s0 Q j f') : xWA p l e R s m args below meth c D cA base b n0 s0 Q j (pc, ls, st, h) := by
  obtain ⟨hx, hb, -, hown, -, hts, hK, -⟩ := hc
  obtain ⟨i, a, st', ⟨tg, tn⟩, rfl, ht, e1, hin, er⟩ := xAaload_inv hq
  cases er
  dsimp only at e1 hin
  subst e1
  intro H la locs cells slots h1 h2 h3 h4 h5
  have key := ih H la locs cells slots h1 h2 h3 h4 h5
  have e4 : ((va_rf (h.2.2.2 a i.toNatClampNeg) :: st').map (xc base b)) = va_rf ((h.2.2.2 a i.toNatClampNeg).map (xa base b)) :: st'.map (xc base b) := by
    rw [List.map_cons]
    cases h.2.2.2 a i.toNatClampNeg <;> rfl
  have hg : W p l e R s m args below meth c H locs cells slots Q (F0 m pc la (.int i :: .ref (base + a) :: st'.map (xc base b))) :=
    va_aldq (D := D) (tys := xtys cA) (C := xSTn) hx hb hK h2 a 3 (xw_get (cA := cA) (base := base) (b := b) ht) rfl hin hdg (by rw [← e4]; exact key)
  rw [← xa_in (b := b) ht hm] at hg
  exact hg
theorem s_iast (hc : xCtx p R s m args meth c D cA base b n0 scr j d) (hdg : decode (xB j) pc = .ok (.iastore, 1)) (hm : h.1.length ≤ xS) (hq : xIastore (pc + 1) ls st h = some (.inl f')) (ih : xWA p l e R s m args below meth c D cA base b n0 s0 Q j f') : xWA p l e R s m args below meth c D cA base b n0 s0 Q j (pc, ls, st, h) := by
  obtain ⟨hx, hb, -, hown, -, hts, hK, -⟩ := hc
  obtain ⟨x, i, a, st', ⟨tg, tn⟩, rfl, ht, e1, hin, er⟩ := xIastore_inv hq
  cases er
  dsimp only at e1 hin
  subst e1
  intro H la locs cells slots h1 h2 h3 h4 h5
  have hg : W p l e R s m args below meth c H locs cells slots Q (F0 m pc la (.int x :: .int i :: .ref (base + a) :: st'.map (xc base b))) := by
    refine va_iast (D := D) (tys := xtys cA) hx hb hK h2 (xw_D cA base b h) h3 a 0 (xw_get (cA := cA) (base := base) (b := b) ht) rfl hin hdg (fun H1 locs1 g1 _ g3 => ?_)
    rw [xw_set (h' := (h.1, xu h.2.1 a i.toNatClampNeg x, h.2.2)) ht ⟨rfl, fun q hq => ⟨xu_ne hq, rfl, rfl⟩⟩ (by show _ = (.inl (cA 0, tn, .inl (xu h.2.1 a i.toNatClampNeg x a)) : va_E); rw [xu_at]; rfl)] at g1
    exact ih H1 la locs1 cells slots h1 g1 g3 h4 h5
  rw [← xa_in (b := b) ht hm] at hg
  exact hg
theorem s_zast (hc : xCtx p R s m args meth c D cA base b n0 scr j d) (hdg : decode (xB j) pc = .ok (.bastore, 1)) (hm : h.1.length ≤ xS) (hq : xBastore (pc + 1) ls st h = some (.inl f')) (ih : xWA p l e R s m args below meth c D cA base b n0 s0 Q j f') : xWA p l e R s m args below meth c D cA base b n0 s0 Q j (pc, ls, st, h) := by
  obtain ⟨hx, hb, -, hown, -, hts, hK, -⟩ := hc
  obtain ⟨x, i, a, st', ⟨tg, tn⟩, rfl, ht, e1, hin, er⟩ := xBastore_inv hq
  cases er
  dsimp only at e1 hin
  subst e1
  intro H la locs cells slots h1 h2 h3 h4 h5
  have hg : W p l e R s m args below meth c H locs cells slots Q (F0 m pc la (.int x :: .int i :: .ref (base + a) :: st'.map (xc base b))) := by
    refine va_zast (D := D) (tys := xtys cA) hx hb hK h2 (xw_D cA base b h) h3 a 1 (xw_get (cA := cA) (base := base) (b := b) ht) rfl hin hdg (fun H1 locs1 g1 _ g3 => ?_)
    rw [xw_set (h' := (h.1, xu h.2.1 a i.toNatClampNeg (vp_nar .boolean x), h.2.2)) ht ⟨rfl, fun q hq => ⟨xu_ne hq, rfl, rfl⟩⟩ (by show _ = (.inl (cA 1, tn, .inl (xu h.2.1 a i.toNatClampNeg (vp_nar .boolean x) a)) : va_E); rw [xu_at]; rfl)] at g1
    exact ih H1 la locs1 cells slots h1 g1 g3 h4 h5
  rw [← xa_in (b := b) ht hm] at hg
  exact hg
theorem s_last (hc : xCtx p R s m args meth c D cA base b n0 scr j d) (hdg : decode (xB j) pc = .ok (.lastore, 1)) (hm : h.1.length ≤ xS) (hq : xLastore (pc + 1) ls st h = some (.inl f')) (ih : xWA p l e R s m args below meth c D cA base b n0 s0 Q j f') : xWA p l e R s m args below meth c D cA base b n0 s0 Q j (pc, ls, st, h) := by
  obtain ⟨hx, hb, -, hown, -, hts, hK, -⟩ := hc
  obtain ⟨x, i, a, st', ⟨tg, tn⟩, rfl, ht, e1, hin, er⟩ := xLastore_inv hq
  cases er
  dsimp only at e1 hin
  subst e1
  intro H la locs cells slots h1 h2 h3 h4 h5
  have hg : W p l e R s m args below meth c H locs cells slots Q (F0 m pc la (.long x :: .int i :: .ref (base + a) :: st'.map (xc base b))) := by
    refine va_last (D := D) (tys := xtys cA) hx hb hK h2 (xw_D cA base b h) h3 a 2 (xw_get (cA := cA) (base := base) (b := b) ht) rfl hin hdg (fun H1 locs1 g1 _ g3 => ?_)
    rw [xw_set (h' := (h.1, h.2.1, xu h.2.2.1 a i.toNatClampNeg x, h.2.2.2)) ht ⟨rfl, fun q hq => ⟨rfl, xu_ne hq, rfl⟩⟩ (by show _ = (.inl (cA 2, tn, .inr (.inl (xu h.2.2.1 a i.toNatClampNeg x a))) : va_E); rw [xu_at]; rfl)] at g1
    exact ih H1 la locs1 cells slots h1 g1 g3 h4 h5
  rw [← xa_in (b := b) ht hm] at hg
  exact hg
theorem s_aast (hc : xCtx p R s m args meth c D cA base b n0 scr j d) (hdg : decode (xB j) pc = .ok (.aastore, 1)) (hm : h.1.length ≤ xS) (hq : xAastore (pc + 1) ls st h = some (.inl f')) (ih : xWA p l e R s m args below meth c D cA base b n0 s0 Q j f') : xWA p l e R s m args below meth c D cA base b n0 s0 Q j (pc, ls, st, h) := by
  obtain ⟨hx, hb, -, hown, -, hts, hK, -⟩ := hc
  obtain ⟨r', i, a, st', ⟨tg, tn⟩, ⟨tg', tn'⟩, rfl, ht, ht', e1, hin, e2, er⟩ := xAastore_inv hq
  cases er
  dsimp only at e1 hin e2
  subst e1
  subst e2
  intro H la locs cells slots h1 h2 h3 h4 h5
  have ea := xa_in (base := base) (b := b) ht hm
  have er := xa_in (base := base) (b := b) ht' hm
  have hg : W p l e R s m args below meth c H locs cells slots Q (F0 m pc la (.ref (base + r') :: .int i :: .ref (base + a) :: st'.map (xc base b))) := by
    refine va_astq (D := D) (tys := xtys cA) hx hb hK h2 (xw_D cA base b h) h3 a 3 r' xST (xw_get (cA := cA) (base := base) (b := b) ht) (r := (xCN xST, xT xST, xNF xST)) rfl (xw_get (cA := cA) (base := base) (b := b) ht') (f_cl (by decide)) hin hdg (fun H1 locs1 g1 _ g3 => ?_)
    rw [xw_set (h' := (h.1, h.2.1, h.2.2.1, xu h.2.2.2 a i.toNatClampNeg (some r'))) ht ⟨rfl, fun q hq => ⟨rfl, rfl, xu_ne hq⟩⟩ (by
      show _ = (.inl (cA 3, tn, .inr (.inr (.inr (.inr (fun k => (xu h.2.2.2 a i.toNatClampNeg (some r') a k).map (xa base b)))))) : va_E)
      have e5 : (fun k => (xu h.2.2.2 a i.toNatClampNeg (some r') a k).map (xa base b)) = va_up (fun k => (h.2.2.2 a k).map (xa base b)) i.toNatClampNeg (some (base + r')) := by
        funext k
        rw [xu_eq]
        unfold va_up
        split
        · rw [Option.map_some, er]
        · rfl
      rw [e5])] at g1
    exact ih H1 la locs1 cells slots h1 g1 g3 h4 h5
  rw [← ea, ← er] at hg
  exact hg
theorem s_copy (hc : xCtx p R s m args meth c D cA base b n0 scr j d) {w1 w2 w3 : Nat} (hw : xlM (xO j) i = some (4, w1, w2, w3)) (hdg : decode (xB j) pc = .ok (.invokestatic i, 3)) (hm : h.1.length ≤ xS) {n dp sp : Int32} {a a0 : Nat} {rest : List Value} {t t0 : Nat × Nat} (ht : h.1[a]? = some t) (ht0 : h.1[a0]? = some t0) (e1 : t.1 = 0) (e2 : t0.1 = 0) (g3 : ¬ sp < 0) (g4 : ¬ dp < 0) (g5 : ¬ n < 0) (g6 : sp.toNatClampNeg + n.toNatClampNeg ≤ t0.2) (g7 : dp.toNatClampNeg + n.toNatClampNeg ≤ t.2) (g8 : xcat rest ≤ 8)
    (ih : xWA p l e R s m args below meth c D cA base b n0 s0 Q j (pc + 3, ls, rest, (h.1, (fun x => if x = a then va_cpy (h.2.1 a0) (h.2.1 a) sp.toNatClampNeg dp.toNatClampNeg n.toNatClampNeg else h.2.1 x), h.2.2))) : xWA p l e R s m args below meth c D cA base b n0 s0 Q j (pc, ls, .int n :: .int dp :: .ref a :: .int sp :: .ref a0 :: rest, h) := by
  obtain ⟨hx, hb, hml, hown, -, hts, hK, -, -, hsz, -, hfr, hlo⟩ := hc
  obtain ⟨tg, tn⟩ := t
  obtain ⟨tg0, tn0⟩ := t0
  dsimp only at e1 e2 g6 g7
  subst e1
  subst e2
  obtain ⟨l1, l2, l3, l4⟩ := f_M4 hw
  intro H la locs cells slots h1 h2 h3 h4 h5
  have ea := xa_in (base := base) (b := b) ht hm
  have ea0 := xa_in (base := base) (b := b) ht0 hm
  have en : nativeFrameWords "java/lang/System" "arraycopy" 5 = 7 := by decide
  have hg : W p l e R s m args below meth c H locs cells slots Q (F0 m pc la (.int n :: .int dp :: .ref (base + a) :: .int sp :: .ref (base + a0) :: rest.map (xc base b))) := by
    refine va_copyi (D := D) (tys := xtys cA) (ty := .int) hx hb (hml.trans h1.1.1.symm) hown (hts _ l1) (hts _ l2) (hts _ l3) (hts _ l4) hK h2 (xw_D cA base b h) h3 a0 a 0 0 (xw_get (cA := cA) (base := base) (b := b) ht0) (xw_get (cA := cA) (base := base) (b := b) ht) rfl rfl rfl g3 g4 g5 g6 g7 (fun _ _ => rfl) (by omega) (by rw [xcat_map, en]; omega) hdg (fun H1 locs1 g1 _ g3 => ?_)
    rw [xw_set (h' := (h.1, (fun x => if x = a then va_cpy (h.2.1 a0) (h.2.1 a) sp.toNatClampNeg dp.toNatClampNeg n.toNatClampNeg else h.2.1 x), h.2.2)) ht ⟨rfl, fun q hq => ⟨if_neg hq, rfl, rfl⟩⟩ (by
      show _ = (.inl (cA 0, tn, .inl (if a = a then va_cpy (h.2.1 a0) (h.2.1 a) sp.toNatClampNeg dp.toNatClampNeg n.toNatClampNeg else h.2.1 a)) : va_E)
      rw [if_pos rfl])] at g1
    exact ih H1 la locs1 cells slots h1 g1 g3 h4 h5
  rw [← ea, ← ea0] at hg
  exact hg
theorem s_obj (hc : xCtx p R s m args meth c D cA base b n0 scr j d) {w1 w2 w3 : Nat} (hw : xlM (xO j) i = some (3, w1, w2, w3)) (hdg : decode (xB j) pc = .ok (.invokespecial i, 3)) {a : Nat} {rest : List Value} (g8 : xcat rest ≤ 8) (ih : xWA p l e R s m args below meth c D cA base b n0 s0 Q j (pc + 3, ls, rest, h)) : xWA p l e R s m args below meth c D cA base b n0 s0 Q j (pc, ls, .ref a :: rest, h) := by
  obtain ⟨hx, hb, hml, hown, -, hts, hK, -, -, hsz, -, hfr, hlo⟩ := hc
  obtain ⟨l1, l2, l3⟩ := f_M3 hw
  intro H la locs cells slots h1 h2 h3 h4 h5
  have hr := lv_room (m := m) (pc := pc) (ls := la) (rest := (Value.ref a :: rest).map (xc base b)) (st := rest.map (xc base b)) (by rw [xcat_map]; exact g8)
  have hr2 : 2 * (F0 m pc la ((Value.ref a :: rest).map (xc base b))).monitorRoom + ((rest.map (xc base b)).map fun v => v.category).sum + 12 ≤ R.locals := by omega
  exact W.objInit (g := F0 m pc la ((Value.ref a :: rest).map (xc base b))) (rest := rest.map (xc base b)) hx hb hown (hts _ l1) (hts _ l2) (hts _ l3) rfl (h1.1.1.trans hml.symm) rfl hdg (by omega) hr2 (ih H la locs cells slots h1 h2 h3 h4 h5)
end XH
end
section
section XC
variable {p : Program} {l : Launch} {e : Env} {R : Room} {s : State} {m : MethodId} {args : Array Value} {below : List Frame} {meth : Method} {c : Code} {Q : State → Prop} {D : va_G} {cA : Nat → ClassId} {base b n0 s0 d j pc pc' k i : Nat} {scr : xScr} {ls : xLs} {st : List Value} {h h' : xHp} {f' : xCf}
theorem s_max (hc : xCtx p R s m args meth c D cA base b n0 scr j d) {w1 w2 w3 : Nat} (hw : xlM (xO j) i = some (5, w1, w2, w3)) (hdg : decode (xB j) pc = .ok (.invokestatic i, 3)) (hn : h.1.length ≤ n0 + R.cells) (hs : xsl h.1 ≤ s0 + R.slots) {x y : Int32} {rest : List Value} (g8 : xcat rest ≤ 8) (ih : xWA p l e R s m args below meth c D cA base b n0 s0 Q j (pc + 3, ls, .int (if x < y then y else x) :: rest, h)) : xWA p l e R s m args below meth c D cA base b n0 s0 Q j (pc, ls, .int y :: .int x :: rest, h) := by
  obtain ⟨hx, hb, hml, hown, -, hts, hK, -, -, hsz, -, hfr, hlo⟩ := hc
  obtain ⟨l1, l2, l3, l4⟩ := f_M5 hw
  intro H la locs cells slots h1 h2 h3 h4 h5
  have c1 : cells + n0 = h.1.length := h4
  have c2 : slots + s0 = xsl h.1 := h5
  exact va_mmax hx hb (hml.trans h1.1.1.symm) hown (hts _ l1) (hts _ l2) (hts _ l3) (hts _ l4) (by omega) (by rw [xcat_map]; omega) (by omega) (by omega) hdg (ih H la locs cells slots h1 h2 h3 h4 h5)
theorem x_go {H : Heap} {locs : List Loc} {cells slots mc ms : Nat} {v : Option Value} {a : Array Value} {la : Array Slot} {rest st0 : List Value} (hr : va_Run p l e R s m args below meth c H locs cells slots mc ms (F0 m pc la st0) rest (xQc D cA base b v h' a) (xA base)) (hS : va_S (xA base) s.heap H locs)
    (kk : ∀ (H1 : Heap) (locs1 : List Loc), va_P D xCl (xw cA base b h') H1 → va_S (xA base) s.heap H1 locs1 → W p l e R s m args below meth c H1 locs1 (cells + mc) (slots + ms) Q (F0 m (pc + 3) la ((v.map (xc base b)).toList ++ rest))) : W p l e R s m args below meth c H locs cells slots Q (F0 m pc la st0) := by
  intro T hT X
  obtain ⟨v', st₀, t, T', L, g0, X', hL, e1, e2, ⟨⟨hv, hP⟩, hz, hk⟩, st⟩ := hr T hT X
  cases hv
  rw [g0] at hz hk
  obtain ⟨t2, a1, b1⟩ := kk T'.heap (locs ++ L) (by rw [e1]; exact hP) ⟨Nat.le_trans hS.1 (by rw [e1]; exact hz), fun q z1 z2 => by rw [e1, hk q (Nat.lt_of_lt_of_le z1 hS.1) z2]; exact hS.2.1 q z1 z2, fun q hq => by
      rcases List.mem_append.mp hq with z | z
      · exact hS.2.2 q z
      · exact hL q z⟩ T' rfl X'
  exact ⟨t2, st t2 a1, b1⟩
def xMt (l : Launch) (D : va_G) (cA : Nat → ClassId) (base b d k : Nat) (as : List Value) (h h' : xHp) (v : Option Value) : Prop := Met l (xY k) (xWs k) (xRm d (h'.1.length - h.1.length) (xsl h'.1 - xsl h.1)) (xPc D cA base b h as) (xQc D cA base b v h') (h'.1.length - h.1.length) (xsl h'.1 - xsl h.1) (xA base)
theorem x_bg (hc : xCtx p R s m args meth c D cA base b n0 scr j d) {H : Heap} {locs : List Loc} {cells : Nat} (hz : H.size ≤ s.heap.size + cells) (h2 : va_P D xCl (xw cA base b h) H) (h3 : va_S (xA base) s.heap H locs) (h4 : cells + n0 = h.1.length) : ∀ U : State, U.heap = H → s.WarmedH U.vm → xBg D cA base b h U := by
  obtain ⟨hx, hb, hml, hown, -, hts, hK, hNs, hAO, hsz, -, hfr, hlo⟩ := hc
  intro U hU hW
  have z1 := xw_low h2 (by have := h3.1; omega)
  exact ⟨by rw [hU]; omega, by rw [hU]; exact h2, hK.moved hW.alike, xNest_warm hW hNs, hAO.moved hW.alike⟩
theorem x_B {own : String} {n mc ms : Nat} (hts : ∀ w ∈ xgw, w.before args s = true) (h0 : 0 < k) (hk : k < xnM) (hl : (Cond.methodLink own i (xY k)).before args s = true) (hini : (Cond.initialized (xY k).cls).before args s = true) (hd : (parseMethodDescriptor (xY k).desc).map (fun d => d.parameters.length) = some n) (hfr : d + 1 + 1 ≤ R.frames) (hlo : 40 * (d + 1 + 1) ≤ R.locals) : CallB R s args own i (xY k) (xB k) (xnL k) (xRt k) (xWs k) (xRm d mc ms) mc ms n := by
  obtain ⟨f1, f2, -, -, -, f6⟩ := f_cls hk
  refine callB_of n hts (xWs_good h0 hk) rfl rfl rfl hini hl ⟨f1, f2, hd⟩ ⟨hfr, ?_⟩
  show 8 + (xnL k + 11) + 40 * (d + 1) ≤ R.locals
  omega
theorem x_tail {v : Option Value} {rest : List Value} : ((v.map (xc base b)).toList ++ rest.map (xc base b)) = (v.toList ++ rest).map (xc base b) := by cases v <;> rfl
theorem x_st {n a : Nat} {rest : List Value} (hd : st.drop n = .ref a :: rest) (ea : xa base b a = base + a) : st.map (xc base b) = (((st.take n).reverse).map (xc base b)).reverse ++ .ref (base + a) :: rest.map (xc base b) := by
  have e1 : st.map (xc base b) = (st.take n).map (xc base b) ++ (st.drop n).map (xc base b) := by rw [← List.map_append, List.take_append_drop]
  rw [e1, hd, List.map_cons, ← ea, ← List.map_reverse, List.reverse_reverse]
  rfl
theorem x_stn {n a : Nat} {rest : List Value} (hd : st.drop n = .ref a :: rest) : (((st.take n).reverse).map (xc base b)).length = n := by
  have := congrArg List.length hd
  simp at this
  simp
  omega
theorem x_arr {n a : Nat} (ea : xa base b a = base + a) : (Value.ref (base + a) :: ((st.take n).reverse).map (xc base b)).toArray = ((.ref a :: (st.take n).reverse).map (xc base b)).toArray := by
  rw [List.map_cons, ← ea]
  rfl
theorem s_callV (hc : xCtx p R s m args meth c D cA base b n0 scr j (d + 1)) (hdg : decode (xB j) pc = .ok (.invokevirtual i, 3)) {as : List Value} {f1 : xCf} {v : Option Value} (hq : xcallV (xlM (xO j) i) (pc + 3) ls st h = some (.inr (.inl (k, as, f1)))) (hM : 0 < k → k < xnM → (xarg as).length ≤ xnL k → xMt l D cA base b d k as h h' v) (hg1 : h.1.length ≤ h'.1.length) (hg2 : xsl h.1 ≤ xsl h'.1) (hm : h.1.length ≤ xS) (hn : h'.1.length ≤ n0 + R.cells) (hs : xsl h'.1 ≤ s0 + R.slots) (ih : xWA p l e R s m args below meth c D cA base b n0 s0 Q j (f1.1, f1.2.1, v.toList ++ f1.2.2.1, h')) : xWA p l e R s m args below meth c D cA base b n0 s0 Q j (pc, ls, st, h) := by
  obtain ⟨k, n, ci, hw, hq⟩ := xcallV_inv hq
  obtain ⟨a, rest, ⟨tg, tn⟩, hd, ht, et, hcat, hlen, er⟩ := xinst_inv hq
  cases er
  dsimp only at et
  subst et
  obtain ⟨h0, hk, hci, hl1, hl2, hl3, hl4, hl5⟩ := f_M0 hw
  intro H la locs cells slots h1 h2 h3 h4 h5
  have c1 : cells + n0 = h.1.length := h4
  have c2 : slots + s0 = xsl h.1 := h5
  refine x_size fun hz => ?_
  have hbg := x_bg hc hz h2 h3 h4
  obtain ⟨hx, hb, hml, hown, -, hts, hK, hNs, hAO, hsz, -, hfr, hlo⟩ := hc
  have ea := xa_in (base := base) (b := b) ht hm
  have run := va_runV (n := n) (g := F0 m pc la (st.map (xc base b))) (rest := rest.map (xc base b)) (b := base + a) (As := ((st.take n).reverse).map (xc base b)) (locs := locs) (cells := cells) (slots := slots) (l := l) (e := e) (below := below) (meth := meth) (C := xCN ci) (ret := xRt k) (bytes := xB k) (maxL := xnL k) (⟨hx, hb, hml, hown, hts⟩ : CallFix p m c (xB j) (xnL j) s args xgw (xON (xO j))) (hM h0 hk hlen) ⟨x_B hts h0 hk (hts _ hl1) (hts _ hl4) hl5 hfr hlo, hts _ hl2, hts _ hl3⟩ ⟨xPc_blind, va_recv hK h2 (f_cl hci) (xw_get (cA := cA) (base := base) (b := b) ht), fun U hU hW => ⟨x_arr ea, hbg U hU hW⟩⟩ rfl (x_stn hd) h1.1.1 (x_st hd ea) (lv_room (by rw [xcat_map]; exact hcat)) hdg ⟨by omega, by omega⟩
  refine x_go run h3 (fun H1 locs1 g1 g2 => ?_)
  rw [x_tail]
  exact ih H1 la locs1 _ _ h1 g1 g2 (by show cells + (h'.1.length - h.1.length) + n0 = h'.1.length; omega) (by show slots + (xsl h'.1 - xsl h.1) + s0 = xsl h'.1; omega)
theorem s_callI (hc : xCtx p R s m args meth c D cA base b n0 scr j (d + 1)) (hdg : decode (xB j) pc = .ok (.invokespecial i, 3)) {as : List Value} {f1 : xCf} {v : Option Value} (hq : xcallI (xlM (xO j) i) (pc + 3) ls st h = some (.inr (.inl (k, as, f1)))) (hM : 0 < k → k < xnM → (xarg as).length ≤ xnL k → xMt l D cA base b d k as h h' v) (hg1 : h.1.length ≤ h'.1.length) (hg2 : xsl h.1 ≤ xsl h'.1) (hm : h.1.length ≤ xS) (hn : h'.1.length ≤ n0 + R.cells) (hs : xsl h'.1 ≤ s0 + R.slots) (ih : xWA p l e R s m args below meth c D cA base b n0 s0 Q j (f1.1, f1.2.1, v.toList ++ f1.2.2.1, h')) : xWA p l e R s m args below meth c D cA base b n0 s0 Q j (pc, ls, st, h) := by
  rcases xcallI_inv hq with ⟨k, n, ci, hw, hq⟩ | ⟨k, n, ci, hw, hq⟩ | ⟨_, _, _, _, _, _, _, _, er⟩
  · obtain ⟨a, rest, ⟨tg, tn⟩, hd, ht, et, hcat, hlen, er⟩ := xinst_inv hq
    cases er
    dsimp only at et
    subst et
    obtain ⟨h0, hk, hnm, hret, hl1, hl2, hl4, hl5⟩ := f_M2 hw
    intro H la locs cells slots h1 h2 h3 h4 h5
    have c1 : cells + n0 = h.1.length := h4
    have c2 : slots + s0 = xsl h.1 := h5
    refine x_size fun hz => ?_
    have hbg := x_bg hc hz h2 h3 h4
    obtain ⟨hx, hb, hml, hown, -, hts, hK, hNs, hAO, hsz, -, hfr, hlo⟩ := hc
    have ea := xa_in (base := base) (b := b) ht hm
    have hB := x_B (d := d) (mc := h'.1.length - h.1.length) (ms := xsl h'.1 - xsl h.1) hts h0 hk (hts _ hl1) (hts _ hl4) hl5 hfr hlo
    rw [hret] at hB
    have run := va_runI (n := n) (g := F0 m pc la (st.map (xc base b))) (rest := rest.map (xc base b)) (b := base + a) (As := ((st.take n).reverse).map (xc base b)) (locs := locs) (cells := cells) (slots := slots) (l := l) (e := e) (below := below) (meth := meth) (bytes := xB k) (maxL := xnL k) (⟨hx, hb, hml, hown, hts⟩ : CallFix p m c (xB j) (xnL j) s args xgw (xON (xO j))) (hM h0 hk hlen) ⟨hB, hnm, hts _ hl2⟩ ⟨xPc_blind, fun U hU hW => ⟨x_arr ea, hbg U hU hW⟩⟩ rfl (x_stn hd) h1.1.1 (x_st hd ea) (lv_room (by rw [xcat_map]; exact hcat)) hdg ⟨by omega, by omega⟩
    refine x_go run h3 (fun H1 locs1 g1 g2 => ?_)
    rw [x_tail]
    exact ih H1 la locs1 _ _ h1 g1 g2 (by show cells + (h'.1.length - h.1.length) + n0 = h'.1.length; omega) (by show slots + (xsl h'.1 - xsl h.1) + s0 = xsl h'.1; omega)
  · obtain ⟨a, rest, ⟨tg, tn⟩, hd, ht, et, hcat, hlen, er⟩ := xinst_inv hq
    cases er
    dsimp only at et
    subst et
    obtain ⟨h0, hk, hnm, hret, ⟨host, hl1⟩, hl2, hl4, hl5⟩ := f_M6 hw
    intro H la locs cells slots h1 h2 h3 h4 h5
    have c1 : cells + n0 = h.1.length := h4
    have c2 : slots + s0 = xsl h.1 := h5
    refine x_size fun hz => ?_
    have hbg := x_bg hc hz h2 h3 h4
    obtain ⟨hx, hb, hml, hown, -, hts, hK, hNs, hAO, hsz, -, hfr, hlo⟩ := hc
    have ea := xa_in (base := base) (b := b) ht hm
    obtain ⟨f1, f2, -, -, -, f6⟩ := f_cls hk
    have hB : va_CN R s args (xON (xO j)) i (xY k) host (xB k) (xnL k) (xRt k) (xWs k) (xRm d (h'.1.length - h.1.length) (xsl h'.1 - xsl h.1)) (h'.1.length - h.1.length) (xsl h'.1 - xsl h.1) n :=
      va_cnB n hts (xWs_good h0 hk) rfl rfl rfl (hNs _ hl1) (hts _ hl4) ⟨f1, f2, hl5⟩ ⟨hfr, by show 8 + (xnL k + 11) + 40 * (d + 1) ≤ R.locals; omega⟩
    rw [hret] at hB
    have run := va_runIN (n := n) (g := F0 m pc la (st.map (xc base b))) (rest := rest.map (xc base b)) (b := base + a) (As := ((st.take n).reverse).map (xc base b)) (locs := locs) (cells := cells) (slots := slots) (l := l) (e := e) (below := below) (meth := meth) (bytes := xB k) (maxL := xnL k) (⟨hx, hb, hml, hown, hts⟩ : CallFix p m c (xB j) (xnL j) s args xgw (xON (xO j))) (hM h0 hk hlen) ⟨hB, hnm, hts _ hl2⟩ ⟨xPc_blind, fun U hU hW => ⟨x_arr ea, hbg U hU hW⟩⟩ rfl (x_stn hd) h1.1.1 (x_st hd ea) (lv_room (by rw [xcat_map]; exact hcat)) hdg ⟨by omega, by omega⟩
    refine x_go run h3 (fun H1 locs1 g1 g2 => ?_)
    rw [x_tail]
    exact ih H1 la locs1 _ _ h1 g1 g2 (by show cells + (h'.1.length - h.1.length) + n0 = h'.1.length; omega) (by show slots + (xsl h'.1 - xsl h.1) + s0 = xsl h'.1; omega)
  · cases er
theorem s_callS (hc : xCtx p R s m args meth c D cA base b n0 scr j (d + 1)) (hdg : decode (xB j) pc = .ok (.invokestatic i, 3)) {as : List Value} {f1 : xCf} {v : Option Value} (hq : xcallS (xlM (xO j) i) (pc + 3) ls st h = some (.inr (.inl (k, as, f1)))) (hM : 0 < k → k < xnM → (xarg as).length ≤ xnL k → xMt l D cA base b d k as h h' v) (hg1 : h.1.length ≤ h'.1.length) (hg2 : xsl h.1 ≤ xsl h'.1) (hm : h.1.length ≤ xS) (hn : h'.1.length ≤ n0 + R.cells) (hs : xsl h'.1 ≤ s0 + R.slots) (ih : xWA p l e R s m args below meth c D cA base b n0 s0 Q j (f1.1, f1.2.1, v.toList ++ f1.2.2.1, h')) : xWA p l e R s m args below meth c D cA base b n0 s0 Q j (pc, ls, st, h) := by
  rcases xcallS_inv hq with ⟨k, n, ci, hw, hle, hcat, hlen, er⟩ | ⟨_, _, _, _, _, _, _, _, _, _, _, _, _, _, _, _, _, _, _, _, _, _, _, er⟩ | ⟨_, _, _, _, _, _, _, _, _, er⟩
  · cases er
    obtain ⟨h0, hk, hl1, hl2, hl4, hl5⟩ := f_M1 hw
    intro H la locs cells slots h1 h2 h3 h4 h5
    have c1 : cells + n0 = h.1.length := h4
    have c2 : slots + s0 = xsl h.1 := h5
    refine x_size fun hz => ?_
    have hbg := x_bg hc hz h2 h3 h4
    obtain ⟨hx, hb, hml, hown, -, hts, hK, hNs, hAO, hsz, -, hfr, hlo⟩ := hc
    have e1 : st.map (xc base b) = (((st.take n).reverse).map (xc base b)).reverse ++ (st.drop n).map (xc base b) := by
      rw [← List.map_reverse, List.reverse_reverse, ← List.map_append, List.take_append_drop]
    have run := va_runS (n := n) (g := F0 m pc la (st.map (xc base b))) (rest := (st.drop n).map (xc base b)) (As := ((st.take n).reverse).map (xc base b)) (locs := locs) (cells := cells) (slots := slots) (l := l) (e := e) (below := below) (meth := meth) (ret := xRt k) (bytes := xB k) (maxL := xnL k) (⟨hx, hb, hml, hown, hts⟩ : CallFix p m c (xB j) (xnL j) s args xgw (xON (xO j))) (hM h0 hk hlen) ⟨x_B hts h0 hk (hts _ hl1) (hts _ hl4) hl5 hfr hlo, hts _ hl2⟩ ⟨xPc_blind, fun U hU hW => ⟨rfl, hbg U hU hW⟩⟩ rfl (by simp; omega) h1.1.1 e1 (lv_room (by rw [xcat_map]; exact hcat)) hdg ⟨by omega, by omega⟩
    refine x_go run h3 (fun H1 locs1 g1 g2 => ?_)
    rw [x_tail]
    exact ih H1 la locs1 _ _ h1 g1 g2 (by show cells + (h'.1.length - h.1.length) + n0 = h'.1.length; omega) (by show slots + (xsl h'.1 - xsl h.1) + s0 = xsl h'.1; omega)
  · cases er
  · cases er
end XC
end
section
theorem xstep_inv {scr : xScr} {j : Nat} {f : xCf} {r : xRs} (hq : xstep scr j f = some r) : ∃ i n, decode (xB j) f.1 = .ok (i, n) ∧ xn i n = true ∧ xop scr j f.1 i f.2.1 f.2.2.1 f.2.2.2 = some r := by
  unfold xstep at hq
  split at hq
  · next hd =>
    split at hq
    · next hh => exact ⟨_, _, hd, hh, hq⟩
    · cases hq
  · cases hq
def xGr (h : xHp) (r : xRs) : Prop := match r with
  | .inl f' => ∃ t, f'.2.2.2.1 = h.1 ++ t
  | .inr (.inl q) => q.2.2.2.2.2 = h
  | .inr (.inr _) => True
theorem xGr_go {h : xHp} {pc : Nat} {ls : xLs} {st : List Value} {h' : xHp} (e : h'.1 = h.1) : xGr h (.inl (pc, ls, st, h')) := ⟨[], by show h'.1 = _; rw [e, List.append_nil]⟩
theorem xputv_sh {kd k a : Nat} {v : Value} {h h' : xHp} (hp : xputv kd k v a h = some h') : h'.1 = h.1 := (xputv_off hp).1
set_option maxHeartbeats 2000000 in
theorem xop_grow {scr : xScr} {j pc : Nat} {i : Instr} {ls : xLs} {st : List Value} {h : xHp} {r : xRs} (hq : xop scr j pc i ls st h = some r) : xGr h r := by
  have hj : ∀ {off : Int} {st' : List Value}, xj pc off ls st' h = some r → xGr h r := fun q => by
    obtain ⟨_, _, rfl⟩ := xj_inv q
    exact xGr_go rfl
  have hi : ∀ {cd : ClassFile.Cond} {x y : Int32} {off : Int} {st' : List Value}, xif cd x y off pc ls st' h = some r → xGr h r := fun q => by
    obtain ⟨_, _, ⟨_, rfl⟩ | ⟨_, rfl⟩⟩ := xif_inv q <;> exact xGr_go rfl
  have ha : ∀ {tag pc' : Nat}, xnewa tag pc' ls st h = some r → xGr h r := fun q => by
    obtain ⟨_, _, _, _, _, rfl⟩ := xnewa_inv q
    exact ⟨_, rfl⟩
  have hin : ∀ {k n ci pc' : Nat}, xinst k n ci pc' ls st h = some r → xGr h r := fun q => by
    obtain ⟨_, _, _, _, _, _, _, _, rfl⟩ := xinst_inv q
    rfl
  cases i with
  | iconst v => cases hq; exact xGr_go rfl
  | bipush v => cases hq; exact xGr_go rfl
  | sipush v => cases hq; exact xGr_go rfl
  | lconst v => cases hq; exact xGr_go rfl
  | ldc k => obtain ⟨_, _, rfl⟩ := xcK_inv hq; exact xGr_go rfl
  | ldc_w k => obtain ⟨_, _, rfl⟩ := xcK_inv hq; exact xGr_go rfl
  | ldc2_w k => obtain ⟨_, _, rfl⟩ := xcJ_inv hq; exact xGr_go rfl
  | iload_n k => obtain ⟨_, _, rfl⟩ := xldI_inv hq; exact xGr_go rfl
  | iload k => obtain ⟨_, _, rfl⟩ := xldI_inv hq; exact xGr_go rfl
  | lload_n k => obtain ⟨_, _, rfl⟩ := xldL_inv hq; exact xGr_go rfl
  | lload k => obtain ⟨_, _, rfl⟩ := xldL_inv hq; exact xGr_go rfl
  | aload_n k => obtain ⟨_, _, rfl⟩ := xldA_inv hq; exact xGr_go rfl
  | aload k => obtain ⟨_, _, rfl⟩ := xldA_inv hq; exact xGr_go rfl
  | istore_n k => obtain ⟨_, _, _, _, rfl⟩ := xstI_inv hq; exact xGr_go rfl
  | istore k => obtain ⟨_, _, _, _, rfl⟩ := xstI_inv hq; exact xGr_go rfl
  | lstore_n k => obtain ⟨_, _, _, _, _, rfl⟩ := xstL_inv hq; exact xGr_go rfl
  | lstore k => obtain ⟨_, _, _, _, _, rfl⟩ := xstL_inv hq; exact xGr_go rfl
  | astore_n k => obtain ⟨_, _, _, _, rfl⟩ := xstA_inv hq; exact xGr_go rfl
  | astore k => obtain ⟨_, _, _, _, rfl⟩ := xstA_inv hq; exact xGr_go rfl
  | iinc k v => obtain ⟨_, _, _, rfl⟩ := xinc_inv hq; exact xGr_go rfl
  | iadd => obtain ⟨_, _, _, _, rfl⟩ := xI2_inv hq; exact xGr_go rfl
  | isub => obtain ⟨_, _, _, _, rfl⟩ := xI2_inv hq; exact xGr_go rfl
  | imul => obtain ⟨_, _, _, _, rfl⟩ := xI2_inv hq; exact xGr_go rfl
  | iand => obtain ⟨_, _, _, _, rfl⟩ := xI2_inv hq; exact xGr_go rfl
  | ior => obtain ⟨_, _, _, _, rfl⟩ := xI2_inv hq; exact xGr_go rfl
  | ixor => obtain ⟨_, _, _, _, rfl⟩ := xI2_inv hq; exact xGr_go rfl
  | idiv => obtain ⟨_, _, _, _, _, rfl⟩ := xID_inv hq; exact xGr_go rfl
  | irem => obtain ⟨_, _, _, _, _, rfl⟩ := xID_inv hq; exact xGr_go rfl
  | ineg => obtain ⟨_, _, _, rfl⟩ := xI1_inv hq; exact xGr_go rfl
  | ishl => obtain ⟨_, _, _, _, rfl⟩ := xI2_inv hq; exact xGr_go rfl
  | ishr => obtain ⟨_, _, _, _, rfl⟩ := xI2_inv hq; exact xGr_go rfl
  | iushr => obtain ⟨_, _, _, _, rfl⟩ := xI2_inv hq; exact xGr_go rfl
  | ladd => obtain ⟨_, _, _, _, rfl⟩ := xL2_inv hq; exact xGr_go rfl
  | lsub => obtain ⟨_, _, _, _, rfl⟩ := xL2_inv hq; exact xGr_go rfl
  | lmul => obtain ⟨_, _, _, _, rfl⟩ := xL2_inv hq; exact xGr_go rfl
  | lcmp => obtain ⟨_, _, _, _, rfl⟩ := xLC_inv hq; exact xGr_go rfl
  | lshr => obtain ⟨_, _, _, _, rfl⟩ := xLS_inv hq; exact xGr_go rfl
  | i2l => obtain ⟨_, _, _, rfl⟩ := xIL_inv hq; exact xGr_go rfl
  | l2i => obtain ⟨_, _, _, rfl⟩ := xLI_inv hq; exact xGr_go rfl
  | dup => obtain ⟨_, _, _, _, rfl⟩ := xdup_inv hq; exact xGr_go rfl
  | dup2 => obtain ⟨_, _, _, _, _, _, rfl⟩ := xdup2_inv hq; exact xGr_go rfl
  | ifCond cd off => obtain ⟨_, _, _, q⟩ := xif0_inv hq; exact hi q
  | if_icmp cd off => obtain ⟨_, _, _, _, q⟩ := xif2_inv hq; exact hi q
  | goto off => exact hj hq
  | tableswitch dflt lo hi offs => obtain ⟨_, _, _, ⟨_, q⟩ | ⟨_, _, _, _, q⟩⟩ := xtab_inv hq <;> exact hj q
  | lookupswitch dflt ps => obtain ⟨_, _, _, _, q⟩ := xlook_inv hq; exact hj q
  | getfield k => obtain ⟨_, _, _, _, _, _, _, _, _, _, rfl⟩ := xgetf_inv hq; exact xGr_go rfl
  | putfield k => obtain ⟨_, _, _, _, _, _, _, _, _, _, hp, _, _, _, rfl⟩ := xputf_inv hq; exact xGr_go (xputv_sh hp)
  | new k => obtain ⟨_, _, _, rfl⟩ := xnewc_inv hq; exact ⟨_, rfl⟩
  | newarray t => cases t <;> first | exact x_no hq | exact ha hq
  | anewarray k =>
    have hq : (if xlA (xO j) k = true then xnewa 3 (pc + 3) ls st h else none) = some r := hq
    split at hq
    · exact ha hq
    · cases hq
  | arraylength => obtain ⟨_, _, _, ⟨_, _, _, rfl⟩ | ⟨_, _, _, rfl⟩⟩ := xlen_inv hq <;> exact xGr_go rfl
  | iaload => obtain ⟨_, _, _, _, ⟨_, _, _, _, rfl⟩ | ⟨_, _, _, _, rfl⟩⟩ := xIaload_inv hq <;> exact xGr_go rfl
  | baload => obtain ⟨_, _, _, _, _, _, _, _, rfl⟩ := xBaload_inv hq; exact xGr_go rfl
  | laload => obtain ⟨_, _, _, _, _, _, _, _, rfl⟩ := xLaload_inv hq; exact xGr_go rfl
  | aaload => obtain ⟨_, _, _, _, _, _, _, _, rfl⟩ := xAaload_inv hq; exact xGr_go rfl
  | iastore => obtain ⟨_, _, _, _, _, _, _, _, _, rfl⟩ := xIastore_inv hq; exact xGr_go rfl
  | bastore => obtain ⟨_, _, _, _, _, _, _, _, _, rfl⟩ := xBastore_inv hq; exact xGr_go rfl
  | lastore => obtain ⟨_, _, _, _, _, _, _, _, _, rfl⟩ := xLastore_inv hq; exact xGr_go rfl
  | aastore => obtain ⟨_, _, _, _, _, _, _, _, _, _, _, _, rfl⟩ := xAastore_inv hq; exact xGr_go rfl
  | invokevirtual k => obtain ⟨_, _, _, _, q⟩ := xcallV_inv hq; exact hin q
  | invokespecial k =>
    rcases xcallI_inv hq with ⟨_, _, _, _, q⟩ | ⟨_, _, _, _, q⟩ | ⟨_, _, _, _, _, _, _, _, rfl⟩
    · exact hin q
    · exact hin q
    · exact xGr_go rfl
  | invokestatic k =>
    rcases xcallS_inv hq with ⟨_, _, _, _, _, _, _, rfl⟩ | ⟨_, _, _, _, _, _, _, _, _, _, _, _, _, _, _, _, _, _, _, _, _, _, _, rfl⟩ | ⟨_, _, _, _, _, _, _, _, _, rfl⟩
    · rfl
    · exact xGr_go rfl
    · exact xGr_go rfl
  | ireturn => obtain ⟨_, _, _, rfl⟩ := xIret_inv hq; exact True.intro
  | lreturn => obtain ⟨_, _, _, rfl⟩ := xLret_inv hq; exact True.intro
  | areturn => obtain ⟨_, _, _, rfl⟩ := xAret_inv hq; exact True.intro
  | return_ => obtain ⟨_, _, rfl⟩ := xVret_inv hq; exact True.intro
  | _ => exact x_no hq
theorem xstep_grow {scr : xScr} {j : Nat} {f : xCf} {r : xRs} (hq : xstep scr j f = some r) : xGr f.2.2.2 r := by
  obtain ⟨i, n, -, -, h⟩ := xstep_inv hq
  exact xop_grow h
theorem xrun_grow : ∀ (n d : Nat) (scr : xScr) (j : Nat) (f : xCf) (v : Option Value) (h' : xHp), xrun n d scr j f = some (v, h') → ∃ t, h'.1 = f.2.2.2.1 ++ t
  | 0, _, _, _, _, _, _, h => by cases h
  | n + 1, d, scr, j, f, v, h', h => by
    rw [xrun] at h
    cases hs : xstep scr j f with
    | none => rw [hs] at h; cases h
    | some q =>
      have hg := xstep_grow hs
      rw [hs] at h
      rcases q with c' | ⟨k, as, c'⟩ | v'
      · obtain ⟨t, ht⟩ := hg
        obtain ⟨t', ht'⟩ := xrun_grow n d scr j c' v h' h
        exact ⟨t ++ t', by rw [ht', ht, List.append_assoc]⟩
      · have hg : c'.2.2.2 = f.2.2.2 := hg
        cases d with
        | zero => cases h
        | succ d =>
          simp only at h
          cases hr : xrun n d none k (0, xent k as, [], c'.2.2.2) with
          | none => rw [hr] at h; cases h
          | some q =>
            obtain ⟨w, h1⟩ := q
            rw [hr] at h
            obtain ⟨t, ht⟩ := xrun_grow n d none k _ w h1 hr
            obtain ⟨t', ht'⟩ := xrun_grow n (d + 1) scr j _ v h' h
            have e1 : h1.1 = f.2.2.2.1 ++ t := by rw [← hg]; exact ht
            have e2 : h'.1 = h1.1 ++ t' := ht'
            exact ⟨t ++ t', by rw [e2, e1, List.append_assoc]⟩
      · cases h
        exact ⟨[], (List.append_nil _).symm⟩
end
section
def xEnd (j : Nat) (i : Instr) (v : Option Value) : Prop := (i = .ireturn ∧ ∃ x, v = some (.int x) ∧ (xRk j = 0 ∨ (xRk j = 1 ∧ (x = 0 ∨ x = 1)))) ∨ (i = .lreturn ∧ (∃ x, v = some (.long x)) ∧ xRk j = 2) ∨ (i = .areturn ∧ (∃ x, v = some (.ref x)) ∧ xRk j = 3) ∨ (i = .return_ ∧ v = none ∧ xRk j = 4)
section XW
variable {p : Program} {l : Launch} {e : Env} {R : Room} {s : State} {m : MethodId} {args : Array Value} {below : List Frame} {meth : Method} {c : Code} {Q : State → Prop} {D : va_G} {cA : Nat → ClassId} {base b n0 s0 d j pc pc' k : Nat} {scr : xScr} {ls : xLs} {st : List Value} {h h' : xHp} {f f' : xCf}
set_option maxHeartbeats 4000000 in
theorem x_step (hc : xCtx p R s m args meth c D cA base b n0 scr j d) (hq : xstep scr j f = some (.inl f')) (hm : f.2.2.2.1.length ≤ xS) (hm' : f'.2.2.2.1.length ≤ xS) (hn : f'.2.2.2.1.length ≤ n0 + R.cells) (hs : xsl f'.2.2.2.1 ≤ s0 + R.slots) (ih : xWA p l e R s m args below meth c D cA base b n0 s0 Q j f') : xWA p l e R s m args below meth c D cA base b n0 s0 Q j f := by
  obtain ⟨i, n, hdg, hxn, hq⟩ := xstep_inv hq
  obtain ⟨pc, ls, st, h⟩ := f
  dsimp only at hdg hq hm
  have hx := hc.1
  have hb := hc.2.1
  have hown := hc.2.2.2.1
  have hts := hc.2.2.2.2.2.1
  have e1 : ∀ {k : Nat}, (n == k) = true → n = k := fun z => by simpa using z
  cases i with
  | iconst v => obtain rfl := e1 hxn; cases hq; exact s_go (fun _ _ _ _ _ k => lv_iconst hx hb hdg rfl k) ih
  | bipush v => obtain rfl := e1 hxn; cases hq; exact s_go (fun _ _ _ _ _ k => lv_bipush hx hb hdg rfl k) ih
  | sipush v => obtain rfl := e1 hxn; cases hq; exact s_go (fun _ _ _ _ _ k => lv_sipush hx hb hdg rfl k) ih
  | lconst v => obtain rfl := e1 hxn; cases hq; exact s_go (fun _ _ _ _ _ k => lv_lconst hx hb hdg rfl k) ih
  | ldc k =>
    obtain rfl := e1 hxn
    obtain ⟨v, hv, er⟩ := xcK_inv hq
    cases er
    exact s_go (fun _ _ _ _ _ k => lv_ldc hx hb hown (hts _ (f_K hv)) hdg k) ih
  | ldc_w k =>
    obtain rfl := e1 hxn
    obtain ⟨v, hv, er⟩ := xcK_inv hq
    cases er
    exact s_go (fun _ _ _ _ _ k => lv_ldcw hx hb hown (hts _ (f_K hv)) hdg k) ih
  | ldc2_w k =>
    obtain rfl := e1 hxn
    obtain ⟨v, hv, er⟩ := xcJ_inv hq
    cases er
    exact s_go (fun _ _ _ _ _ k => lv_ldc2 hx hb hown (hts _ (f_J hv)) hdg k) ih
  | iload_n k => obtain rfl := e1 hxn; exact s_ldI hq (fun _ _ _ _ _ _ _ z k => lv_iload_n hx hb hdg rfl z k) ih
  | iload k => obtain rfl := e1 hxn; exact s_ldI hq (fun _ _ _ _ _ _ _ z k => lv_iload hx hb hdg z k) ih
  | lload_n k => obtain rfl := e1 hxn; exact s_ldL hq (fun _ _ _ _ _ _ _ z k => lv_lload_n hx hb hdg rfl z k) ih
  | lload k => obtain rfl := e1 hxn; exact s_ldL hq (fun _ _ _ _ _ _ _ z k => lv_lload hx hb hdg z k) ih
  | aload_n k => obtain rfl := e1 hxn; exact s_ldA hq (fun _ _ _ _ _ _ _ z k => lv_aload_n hx hb hdg rfl z k) ih
  | aload k => obtain rfl := e1 hxn; exact s_ldA hq (fun _ _ _ _ _ _ _ z k => lv_aload hx hb hdg z k) ih
  | istore_n k => obtain rfl := e1 hxn; exact s_stI hq (fun _ _ _ _ _ _ _ _ z z2 k => lv_istore_n hx hb hdg rfl z z2 rfl k) ih
  | istore k => obtain rfl := e1 hxn; exact s_stI hq (fun _ _ _ _ _ _ _ _ z z2 k => lv_istore hx hb hdg z z2 rfl k) ih
  | lstore_n k => obtain rfl := e1 hxn; exact s_stL hq (fun _ _ _ _ _ _ _ _ z z2 k => lv_lstore_n hx hb hdg rfl z z2 rfl k) ih
  | lstore k => obtain rfl := e1 hxn; exact s_stL hq (fun _ _ _ _ _ _ _ _ z z2 k => lv_lstore hx hb hdg z z2 rfl k) ih
  | astore_n k => obtain rfl := e1 hxn; exact s_stA hq (fun _ _ _ _ _ _ _ _ z z2 k => lv_astore_n hx hb hdg rfl z z2 rfl k) ih
  | astore k => obtain rfl := e1 hxn; exact s_stA hq (fun _ _ _ _ _ _ _ _ z z2 k => lv_astore hx hb hdg z z2 rfl k) ih
  | iinc k v => obtain rfl := e1 hxn; exact s_inc hx hb hdg hq ih
  | iadd => obtain rfl := e1 hxn; exact s_I2 hq (fun _ _ _ _ _ _ _ _ k => lv_iadd hx hb hdg k) ih
  | isub => obtain rfl := e1 hxn; exact s_I2 hq (fun _ _ _ _ _ _ _ _ k => lv_isub hx hb hdg k) ih
  | imul => obtain rfl := e1 hxn; exact s_I2 hq (fun _ _ _ _ _ _ _ _ k => lv_imul hx hb hdg k) ih
  | iand => obtain rfl := e1 hxn; exact s_I2 hq (fun _ _ _ _ _ _ _ _ k => lv_iand hx hb hdg k) ih
  | ior => obtain rfl := e1 hxn; exact s_I2 hq (fun _ _ _ _ _ _ _ _ k => lv_ior hx hb hdg k) ih
  | ixor => obtain rfl := e1 hxn; exact s_I2 hq (fun _ _ _ _ _ _ _ _ k => lv_ixor hx hb hdg k) ih
  | idiv => obtain rfl := e1 hxn; exact s_ID hq (fun _ _ _ _ _ _ _ _ z k => lv_idiv hx hb hdg z k) ih
  | irem => obtain rfl := e1 hxn; exact s_ID hq (fun _ _ _ _ _ _ _ _ z k => lv_irem hx hb hdg z k) ih
  | ineg => obtain rfl := e1 hxn; exact s_I1 hq (fun _ _ _ _ _ _ _ k => lv_ineg hx hb hdg k) ih
  | ishl => obtain rfl := e1 hxn; exact s_I2 hq (fun _ _ _ _ _ _ _ _ k => lv_ishl hx hb hdg k) ih
  | ishr => obtain rfl := e1 hxn; exact s_I2 hq (fun _ _ _ _ _ _ _ _ k => lv_ishr hx hb hdg k) ih
  | iushr => obtain rfl := e1 hxn; exact s_I2 hq (fun _ _ _ _ _ _ _ _ k => lv_iushr hx hb hdg rfl k) ih
  | ladd => obtain rfl := e1 hxn; exact s_L2 hq (fun _ _ _ _ _ _ _ _ k => lv_ladd hx hb hdg k) ih
  | lsub => obtain rfl := e1 hxn; exact s_L2 hq (fun _ _ _ _ _ _ _ _ k => lv_lsub hx hb hdg k) ih
  | lmul => obtain rfl := e1 hxn; exact s_L2 hq (fun _ _ _ _ _ _ _ _ k => lv_lmul hx hb hdg k) ih
  | lcmp => obtain rfl := e1 hxn; exact s_LC hq (fun _ _ _ _ _ _ _ _ k => W.lcmp hx hb hdg k) ih
  | lshr => obtain rfl := e1 hxn; exact s_LS hq (fun _ _ _ _ _ _ _ _ k => lv_lshr hx hb hdg rfl k) ih
  | i2l => obtain rfl := e1 hxn; exact s_IL hq (fun _ _ _ _ _ _ _ k => lv_i2l hx hb hdg rfl k) ih
  | l2i => obtain rfl := e1 hxn; exact s_LI hq (fun _ _ _ _ _ _ _ k => lv_l2i hx hb hdg rfl k) ih
  | dup => obtain rfl := e1 hxn; exact s_dup hq (fun _ _ _ _ _ _ _ z k => lv_dup hx hb hdg z k) ih
  | dup2 => obtain rfl := e1 hxn; exact s_dup2 hq (fun _ _ _ _ _ _ _ _ z z2 k => lv_dup2_11 hx hb hdg z z2 k) ih
  | ifCond cd off => obtain rfl := e1 hxn; exact s_if0 hx hb hdg hq ih
  | if_icmp cd off => obtain rfl := e1 hxn; exact s_if2 hx hb hdg hq ih
  | goto off => obtain rfl := e1 hxn; exact s_j hq (fun _ ht _ _ _ _ _ k => lv_goto hx hb hdg ht k) ih
  | tableswitch dflt lo hi offs => exact s_tab hx hb hdg hq ih
  | lookupswitch dflt ps => exact s_look hx hb hdg hq ih
  | getfield k => obtain rfl := e1 hxn; exact s_getf hc hdg hm hq ih
  | putfield k => obtain rfl := e1 hxn; exact s_putf hc hdg hm hq ih
  | new k => obtain rfl := e1 hxn; exact s_newc hc hdg hm' hn hs hq ih
  | newarray t =>
    obtain rfl := e1 hxn
    cases t with
    | int => exact s_newa (tag := 0) (atype := .int) (ty := .int) (fun N => (N, .inl (fun _ => 0))) hc f_a0 rfl rfl (fun _ _ => rfl) (fun N => by simp [xe, xnew, xz]) (by decide) hdg hm' hn hs hq ih
    | boolean => exact s_newa (tag := 1) (atype := .boolean) (ty := .boolean) (fun N => (N, .inl (fun _ => 0))) hc f_a1 rfl rfl (fun _ _ => rfl) (fun N => by simp [xe, xnew, xz]) (by decide) hdg hm' hn hs hq ih
    | long => exact s_newa (tag := 2) (atype := .long) (ty := .long) (fun N => (N, .inr (.inl (fun _ => 0)))) hc f_a2 rfl rfl (fun _ _ => rfl) (fun N => by simp [xe, xnew, xz]) (by decide) hdg hm' hn hs hq ih
    | _ => exact x_no hq
  | anewarray k =>
    obtain rfl := e1 hxn
    have hq : (if xlA (xO j) k = true then xnewa 3 (pc + 3) ls st h else none) = some (.inl f') := hq
    split at hq
    · next hl => exact s_newq hc hl hdg hm' hn hs hq ih
    · cases hq
  | arraylength => obtain rfl := e1 hxn; exact s_len hc hdg hm hq ih
  | iaload => obtain rfl := e1 hxn; exact s_iald hc hdg hm hq ih
  | baload => obtain rfl := e1 hxn; exact s_zald hc hdg hm hq ih
  | laload => obtain rfl := e1 hxn; exact s_lald hc hdg hm hq ih
  | aaload => obtain rfl := e1 hxn; exact s_aald hc hdg hm hq ih
  | iastore => obtain rfl := e1 hxn; exact s_iast hc hdg hm hq ih
  | bastore => obtain rfl := e1 hxn; exact s_zast hc hdg hm hq ih
  | lastore => obtain rfl := e1 hxn; exact s_last hc hdg hm hq ih
  | aastore => obtain rfl := e1 hxn; exact s_aast hc hdg hm hq ih
  | invokevirtual k =>
    obtain ⟨_, _, _, _, q⟩ := xcallV_inv hq
    obtain ⟨_, _, _, _, _, _, _, _, er⟩ := xinst_inv q
    cases er
  | invokespecial k =>
    obtain rfl := e1 hxn
    rcases xcallI_inv hq with ⟨_, _, _, _, q⟩ | ⟨_, _, _, _, q⟩ | ⟨_, _, _, _, _, hw, rfl, g8, er⟩
    · obtain ⟨_, _, _, _, _, _, _, _, er⟩ := xinst_inv q
      cases er
    · obtain ⟨_, _, _, _, _, _, _, _, er⟩ := xinst_inv q
      cases er
    · cases er
      exact s_obj hc hw hdg g8 ih
  | invokestatic k =>
    obtain rfl := e1 hxn
    rcases xcallS_inv hq with ⟨_, _, _, _, _, _, _, er⟩ | ⟨_, _, _, hw, _, _, _, _, _, _, _, _, rfl, ht, ht0, g1, g2, g3, g4, g5, g6, g7, g8, er⟩ | ⟨_, _, _, hw, _, _, _, rfl, g8, er⟩
    · cases er
    · cases er
      exact s_copy hc hw hdg hm ht ht0 g1 g2 g3 g4 g5 g6 g7 g8 ih
    · cases er
      exact s_max hc hw hdg hn hs g8 ih
  | ireturn => obtain ⟨_, _, _, er⟩ := xIret_inv hq; cases er
  | lreturn => obtain ⟨_, _, _, er⟩ := xLret_inv hq; cases er
  | areturn => obtain ⟨_, _, _, er⟩ := xAret_inv hq; cases er
  | return_ => obtain ⟨_, _, er⟩ := xVret_inv hq; cases er
  | _ => exact x_no hq
set_option maxHeartbeats 4000000 in
theorem xop_call {i : Instr} {as : List Value} {f1 : xCf} (hq : xop scr j pc i ls st h = some (.inr (.inl (k, as, f1)))) : (∃ q, i = .invokevirtual q) ∨ (∃ q, i = .invokespecial q) ∨ (∃ q, i = .invokestatic q) := by
  cases i with
  | invokevirtual q => exact Or.inl ⟨q, rfl⟩
  | invokespecial q => exact Or.inr (Or.inl ⟨q, rfl⟩)
  | invokestatic q => exact Or.inr (Or.inr ⟨q, rfl⟩)
  | iconst v => cases hq
  | bipush v => cases hq
  | sipush v => cases hq
  | lconst v => cases hq
  | ldc q => obtain ⟨_, _, er⟩ := xcK_inv hq; cases er
  | ldc_w q => obtain ⟨_, _, er⟩ := xcK_inv hq; cases er
  | ldc2_w q => obtain ⟨_, _, er⟩ := xcJ_inv hq; cases er
  | iload_n q => obtain ⟨_, _, er⟩ := xldI_inv hq; cases er
  | iload q => obtain ⟨_, _, er⟩ := xldI_inv hq; cases er
  | lload_n q => obtain ⟨_, _, er⟩ := xldL_inv hq; cases er
  | lload q => obtain ⟨_, _, er⟩ := xldL_inv hq; cases er
  | aload_n q => obtain ⟨_, _, er⟩ := xldA_inv hq; cases er
  | aload q => obtain ⟨_, _, er⟩ := xldA_inv hq; cases er
  | istore_n q => obtain ⟨_, _, _, _, er⟩ := xstI_inv hq; cases er
  | istore q => obtain ⟨_, _, _, _, er⟩ := xstI_inv hq; cases er
  | lstore_n q => obtain ⟨_, _, _, _, _, er⟩ := xstL_inv hq; cases er
  | lstore q => obtain ⟨_, _, _, _, _, er⟩ := xstL_inv hq; cases er
  | astore_n q => obtain ⟨_, _, _, _, er⟩ := xstA_inv hq; cases er
  | astore q => obtain ⟨_, _, _, _, er⟩ := xstA_inv hq; cases er
  | iinc q v => obtain ⟨_, _, _, er⟩ := xinc_inv hq; cases er
  | iadd => obtain ⟨_, _, _, _, er⟩ := xI2_inv hq; cases er
  | isub => obtain ⟨_, _, _, _, er⟩ := xI2_inv hq; cases er
  | imul => obtain ⟨_, _, _, _, er⟩ := xI2_inv hq; cases er
  | iand => obtain ⟨_, _, _, _, er⟩ := xI2_inv hq; cases er
  | ior => obtain ⟨_, _, _, _, er⟩ := xI2_inv hq; cases er
  | ixor => obtain ⟨_, _, _, _, er⟩ := xI2_inv hq; cases er
  | idiv => obtain ⟨_, _, _, _, _, er⟩ := xID_inv hq; cases er
  | irem => obtain ⟨_, _, _, _, _, er⟩ := xID_inv hq; cases er
  | ineg => obtain ⟨_, _, _, er⟩ := xI1_inv hq; cases er
  | ishl => obtain ⟨_, _, _, _, er⟩ := xI2_inv hq; cases er
  | ishr => obtain ⟨_, _, _, _, er⟩ := xI2_inv hq; cases er
  | iushr => obtain ⟨_, _, _, _, er⟩ := xI2_inv hq; cases er
  | ladd => obtain ⟨_, _, _, _, er⟩ := xL2_inv hq; cases er
  | lsub => obtain ⟨_, _, _, _, er⟩ := xL2_inv hq; cases er
  | lmul => obtain ⟨_, _, _, _, er⟩ := xL2_inv hq; cases er
  | lcmp => obtain ⟨_, _, _, _, er⟩ := xLC_inv hq; cases er
  | lshr => obtain ⟨_, _, _, _, er⟩ := xLS_inv hq; cases er
  | i2l => obtain ⟨_, _, _, er⟩ := xIL_inv hq; cases er
  | l2i => obtain ⟨_, _, _, er⟩ := xLI_inv hq; cases er
  | dup => obtain ⟨_, _, _, _, er⟩ := xdup_inv hq; cases er
  | dup2 => obtain ⟨_, _, _, _, _, _, er⟩ := xdup2_inv hq; cases er
  | ifCond cd off =>
    obtain ⟨_, _, _, q⟩ := xif0_inv hq
    obtain ⟨_, _, ⟨_, er⟩ | ⟨_, er⟩⟩ := xif_inv q <;> cases er
  | if_icmp cd off =>
    obtain ⟨_, _, _, _, q⟩ := xif2_inv hq
    obtain ⟨_, _, ⟨_, er⟩ | ⟨_, er⟩⟩ := xif_inv q <;> cases er
  | goto off => obtain ⟨_, _, er⟩ := xj_inv hq; cases er
  | tableswitch dflt lo hi offs =>
    obtain ⟨_, _, _, ⟨_, q⟩ | ⟨_, _, _, _, q⟩⟩ := xtab_inv hq <;> (obtain ⟨_, _, er⟩ := xj_inv q; cases er)
  | lookupswitch dflt ps =>
    obtain ⟨_, _, _, _, q⟩ := xlook_inv hq
    obtain ⟨_, _, er⟩ := xj_inv q
    cases er
  | getfield q => obtain ⟨_, _, _, _, _, _, _, _, _, _, er⟩ := xgetf_inv hq; cases er
  | putfield q => obtain ⟨_, _, _, _, _, _, _, _, _, _, hp, _, _, _, er⟩ := xputf_inv hq; cases er
  | new q => obtain ⟨_, _, _, er⟩ := xnewc_inv hq; cases er
  | newarray t => cases t <;> first | exact x_no hq | (obtain ⟨_, _, _, _, _, er⟩ := xnewa_inv hq; cases er)
  | anewarray q =>
    have hq : (if xlA (xO j) q = true then xnewa 3 (pc + 3) ls st h else none) = some (.inr (.inl (k, as, f1))) := hq
    split at hq
    · obtain ⟨_, _, _, _, _, er⟩ := xnewa_inv hq
      cases er
    · cases hq
  | arraylength => obtain ⟨_, _, _, ⟨_, _, _, er⟩ | ⟨_, _, _, er⟩⟩ := xlen_inv hq <;> cases er
  | iaload => obtain ⟨_, _, _, _, ⟨_, _, _, _, er⟩ | ⟨_, _, _, _, er⟩⟩ := xIaload_inv hq <;> cases er
  | baload => obtain ⟨_, _, _, _, _, _, _, _, er⟩ := xBaload_inv hq; cases er
  | laload => obtain ⟨_, _, _, _, _, _, _, _, er⟩ := xLaload_inv hq; cases er
  | aaload => obtain ⟨_, _, _, _, _, _, _, _, er⟩ := xAaload_inv hq; cases er
  | iastore => obtain ⟨_, _, _, _, _, _, _, _, _, er⟩ := xIastore_inv hq; cases er
  | bastore => obtain ⟨_, _, _, _, _, _, _, _, _, er⟩ := xBastore_inv hq; cases er
  | lastore => obtain ⟨_, _, _, _, _, _, _, _, _, er⟩ := xLastore_inv hq; cases er
  | aastore => obtain ⟨_, _, _, _, _, _, _, _, _, _, _, _, er⟩ := xAastore_inv hq; cases er
  | ireturn => obtain ⟨_, _, _, er⟩ := xIret_inv hq; cases er
  | lreturn => obtain ⟨_, _, _, er⟩ := xLret_inv hq; cases er
  | areturn => obtain ⟨_, _, _, er⟩ := xAret_inv hq; cases er
  | return_ => obtain ⟨_, _, er⟩ := xVret_inv hq; cases er
  | _ => exact x_no hq
theorem xinst_f1 {n ci : Nat} {k' : Nat} {as : List Value} {f1 : xCf} (hq : xinst k' n ci pc' ls st h = some (.inr (.inl (k, as, f1)))) : f1.1 = pc' ∧ f1.2.1 = ls ∧ f1.2.2.2 = h := by
  obtain ⟨_, _, _, _, _, _, _, _, er⟩ := xinst_inv hq
  cases er
  exact ⟨rfl, rfl, rfl⟩
theorem x_callstep (hc : xCtx p R s m args meth c D cA base b n0 scr j (d + 1)) {as : List Value} {f1 : xCf} {v : Option Value} (hq : xstep scr j f = some (.inr (.inl (k, as, f1)))) (hM : 0 < k → k < xnM → (xarg as).length ≤ xnL k → xMt l D cA base b d k as f1.2.2.2 h' v) (hg1 : f1.2.2.2.1.length ≤ h'.1.length) (hg2 : xsl f1.2.2.2.1 ≤ xsl h'.1) (hm : f1.2.2.2.1.length ≤ xS) (hn : h'.1.length ≤ n0 + R.cells) (hs : xsl h'.1 ≤ s0 + R.slots) (ih : xWA p l e R s m args below meth c D cA base b n0 s0 Q j (f1.1, f1.2.1, v.toList ++ f1.2.2.1, h')) : xWA p l e R s m args below meth c D cA base b n0 s0 Q j f := by
  have hgr : f1.2.2.2 = f.2.2.2 := xstep_grow hq
  obtain ⟨i, n, hdg, hxn, hq⟩ := xstep_inv hq
  obtain ⟨pc, ls, st, h⟩ := f
  dsimp only at hdg hq hgr
  rw [hgr] at hM hg1 hg2 hm
  have e1 : ∀ {k : Nat}, (n == k) = true → n = k := fun z => by simpa using z
  rcases xop_call hq with ⟨q, rfl⟩ | ⟨q, rfl⟩ | ⟨q, rfl⟩
  · obtain rfl := e1 hxn
    exact s_callV hc hdg hq hM hg1 hg2 hm hn hs ih
  · obtain rfl := e1 hxn
    exact s_callI hc hdg hq hM hg1 hg2 hm hn hs ih
  · obtain rfl := e1 hxn
    exact s_callS hc hdg hq hM hg1 hg2 hm hn hs ih
end XW
end
section
section XR
variable {p : Program} {l : Launch} {e : Env} {R : Room} {s : State} {m : MethodId} {args : Array Value} {below : List Frame} {meth : Method} {c : Code} {Q : State → Prop} {D : va_G} {cA : Nat → ClassId} {base b n0 s0 d j pc pc' k : Nat} {scr : xScr} {ls : xLs} {st : List Value} {h h' : xHp} {f f' : xCf}
set_option maxHeartbeats 4000000 in
theorem xop_ret {i : Instr} {n : Nat} {v : Option Value} (hxn : xn i n = true) (hq : xop scr j pc i ls st h = some (.inr (.inr v))) : xEnd j i v ∧ st = v.toList ∧ n = 1 := by
  have hin : ∀ {k n ci pc' : Nat}, xinst k n ci pc' ls st h = some (.inr (.inr v)) → False := fun q => by
    obtain ⟨_, _, _, _, _, _, _, _, er⟩ := xinst_inv q
    cases er
  have e1 : (n == 1) = true → n = 1 := fun z => by simpa using z
  cases i with
  | ireturn =>
    obtain ⟨x, rfl, hr, er⟩ := xIret_inv hq
    cases er
    exact ⟨Or.inl ⟨rfl, x, rfl, hr⟩, rfl, e1 hxn⟩
  | lreturn =>
    obtain ⟨x, rfl, hr, er⟩ := xLret_inv hq
    cases er
    exact ⟨Or.inr (Or.inl ⟨rfl, ⟨x, rfl⟩, hr⟩), rfl, e1 hxn⟩
  | areturn =>
    obtain ⟨x, rfl, hr, er⟩ := xAret_inv hq
    cases er
    exact ⟨Or.inr (Or.inr (Or.inl ⟨rfl, ⟨x, rfl⟩, hr⟩)), rfl, e1 hxn⟩
  | return_ =>
    obtain ⟨rfl, hr, er⟩ := xVret_inv hq
    cases er
    exact ⟨Or.inr (Or.inr (Or.inr ⟨rfl, rfl, hr⟩)), rfl, e1 hxn⟩
  | invokevirtual q => obtain ⟨_, _, _, _, q⟩ := xcallV_inv hq; exact (hin q).elim
  | invokespecial q =>
    rcases xcallI_inv hq with ⟨_, _, _, _, q⟩ | ⟨_, _, _, _, q⟩ | ⟨_, _, _, _, _, _, _, _, er⟩
    · exact (hin q).elim
    · exact (hin q).elim
    · cases er
  | invokestatic q =>
    rcases xcallS_inv hq with ⟨_, _, _, _, _, _, _, er⟩ | ⟨_, _, _, _, _, _, _, _, _, _, _, _, _, _, _, _, _, _, _, _, _, _, _, er⟩ | ⟨_, _, _, _, _, _, _, _, _, er⟩ <;> cases er
  | iconst v => cases hq
  | bipush v => cases hq
  | sipush v => cases hq
  | lconst v => cases hq
  | ldc q => obtain ⟨_, _, er⟩ := xcK_inv hq; cases er
  | ldc_w q => obtain ⟨_, _, er⟩ := xcK_inv hq; cases er
  | ldc2_w q => obtain ⟨_, _, er⟩ := xcJ_inv hq; cases er
  | iload_n q => obtain ⟨_, _, er⟩ := xldI_inv hq; cases er
  | iload q => obtain ⟨_, _, er⟩ := xldI_inv hq; cases er
  | lload_n q => obtain ⟨_, _, er⟩ := xldL_inv hq; cases er
  | lload q => obtain ⟨_, _, er⟩ := xldL_inv hq; cases er
  | aload_n q => obtain ⟨_, _, er⟩ := xldA_inv hq; cases er
  | aload q => obtain ⟨_, _, er⟩ := xldA_inv hq; cases er
  | istore_n q => obtain ⟨_, _, _, _, er⟩ := xstI_inv hq; cases er
  | istore q => obtain ⟨_, _, _, _, er⟩ := xstI_inv hq; cases er
  | lstore_n q => obtain ⟨_, _, _, _, _, er⟩ := xstL_inv hq; cases er
  | lstore q => obtain ⟨_, _, _, _, _, er⟩ := xstL_inv hq; cases er
  | astore_n q => obtain ⟨_, _, _, _, er⟩ := xstA_inv hq; cases er
  | astore q => obtain ⟨_, _, _, _, er⟩ := xstA_inv hq; cases er
  | iinc q v => obtain ⟨_, _, _, er⟩ := xinc_inv hq; cases er
  | iadd => obtain ⟨_, _, _, _, er⟩ := xI2_inv hq; cases er
  | isub => obtain ⟨_, _, _, _, er⟩ := xI2_inv hq; cases er
  | imul => obtain ⟨_, _, _, _, er⟩ := xI2_inv hq; cases er
  | iand => obtain ⟨_, _, _, _, er⟩ := xI2_inv hq; cases er
  | ior => obtain ⟨_, _, _, _, er⟩ := xI2_inv hq; cases er
  | ixor => obtain ⟨_, _, _, _, er⟩ := xI2_inv hq; cases er
  | idiv => obtain ⟨_, _, _, _, _, er⟩ := xID_inv hq; cases er
  | irem => obtain ⟨_, _, _, _, _, er⟩ := xID_inv hq; cases er
  | ineg => obtain ⟨_, _, _, er⟩ := xI1_inv hq; cases er
  | ishl => obtain ⟨_, _, _, _, er⟩ := xI2_inv hq; cases er
  | ishr => obtain ⟨_, _, _, _, er⟩ := xI2_inv hq; cases er
  | iushr => obtain ⟨_, _, _, _, er⟩ := xI2_inv hq; cases er
  | ladd => obtain ⟨_, _, _, _, er⟩ := xL2_inv hq; cases er
  | lsub => obtain ⟨_, _, _, _, er⟩ := xL2_inv hq; cases er
  | lmul => obtain ⟨_, _, _, _, er⟩ := xL2_inv hq; cases er
  | lcmp => obtain ⟨_, _, _, _, er⟩ := xLC_inv hq; cases er
  | lshr => obtain ⟨_, _, _, _, er⟩ := xLS_inv hq; cases er
  | i2l => obtain ⟨_, _, _, er⟩ := xIL_inv hq; cases er
  | l2i => obtain ⟨_, _, _, er⟩ := xLI_inv hq; cases er
  | dup => obtain ⟨_, _, _, _, er⟩ := xdup_inv hq; cases er
  | dup2 => obtain ⟨_, _, _, _, _, _, er⟩ := xdup2_inv hq; cases er
  | ifCond cd off =>
    obtain ⟨_, _, _, q⟩ := xif0_inv hq
    obtain ⟨_, _, ⟨_, er⟩ | ⟨_, er⟩⟩ := xif_inv q <;> cases er
  | if_icmp cd off =>
    obtain ⟨_, _, _, _, q⟩ := xif2_inv hq
    obtain ⟨_, _, ⟨_, er⟩ | ⟨_, er⟩⟩ := xif_inv q <;> cases er
  | goto off => obtain ⟨_, _, er⟩ := xj_inv hq; cases er
  | tableswitch dflt lo hi offs =>
    obtain ⟨_, _, _, ⟨_, q⟩ | ⟨_, _, _, _, q⟩⟩ := xtab_inv hq <;> (obtain ⟨_, _, er⟩ := xj_inv q; cases er)
  | lookupswitch dflt ps =>
    obtain ⟨_, _, _, _, q⟩ := xlook_inv hq
    obtain ⟨_, _, er⟩ := xj_inv q
    cases er
  | getfield q => obtain ⟨_, _, _, _, _, _, _, _, _, _, er⟩ := xgetf_inv hq; cases er
  | putfield q => obtain ⟨_, _, _, _, _, _, _, _, _, _, hp, _, _, _, er⟩ := xputf_inv hq; cases er
  | new q => obtain ⟨_, _, _, er⟩ := xnewc_inv hq; cases er
  | newarray t => cases t <;> first | exact x_no hq | (obtain ⟨_, _, _, _, _, er⟩ := xnewa_inv hq; cases er)
  | anewarray q =>
    have hq : (if xlA (xO j) q = true then xnewa 3 (pc + 3) ls st h else none) = some (.inr (.inr v)) := hq
    split at hq
    · obtain ⟨_, _, _, _, _, er⟩ := xnewa_inv hq
      cases er
    · cases hq
  | arraylength => obtain ⟨_, _, _, ⟨_, _, _, er⟩ | ⟨_, _, _, er⟩⟩ := xlen_inv hq <;> cases er
  | iaload => obtain ⟨_, _, _, _, ⟨_, _, _, _, er⟩ | ⟨_, _, _, _, er⟩⟩ := xIaload_inv hq <;> cases er
  | baload => obtain ⟨_, _, _, _, _, _, _, _, er⟩ := xBaload_inv hq; cases er
  | laload => obtain ⟨_, _, _, _, _, _, _, _, er⟩ := xLaload_inv hq; cases er
  | aaload => obtain ⟨_, _, _, _, _, _, _, _, er⟩ := xAaload_inv hq; cases er
  | iastore => obtain ⟨_, _, _, _, _, _, _, _, _, er⟩ := xIastore_inv hq; cases er
  | bastore => obtain ⟨_, _, _, _, _, _, _, _, _, er⟩ := xBastore_inv hq; cases er
  | lastore => obtain ⟨_, _, _, _, _, _, _, _, _, er⟩ := xLastore_inv hq; cases er
  | aastore => obtain ⟨_, _, _, _, _, _, _, _, _, _, _, _, er⟩ := xAastore_inv hq; cases er
  | _ => exact x_no hq
def xHE (p : Program) (l : Launch) (e : Env) (R : Room) (s : State) (m : MethodId) (args : Array Value) (below : List Frame) (meth : Method) (c : Code) (D : va_G) (cA : Nat → ClassId) (base b n0 s0 : Nat) (Q : State → Prop) (j : Nat) (v : Option Value) (h' : xHp) : Prop :=
  ∀ (i : Instr) (pc : Nat), decode (xB j) pc = .ok (i, 1) → xEnd j i v → ∀ (H : Heap) (la : Array Slot) (locs : List Loc) (cells slots : Nat), va_P D xCl (xw cA base b h') H → va_S (xA base) s.heap H locs → cells + n0 = h'.1.length → slots + s0 = xsl h'.1 → W p l e R s m args below meth c H locs cells slots Q (F0 m pc la ((v.map (xc base b)).toList))
theorem x_retstep {v : Option Value} (hq : xstep scr j f = some (.inr (.inr v))) (hE : xHE p l e R s m args below meth c D cA base b n0 s0 Q j v f.2.2.2) : xWA p l e R s m args below meth c D cA base b n0 s0 Q j f := by
  obtain ⟨i, n, hdg, hxn, hq⟩ := xstep_inv hq
  obtain ⟨pc, ls, st, h⟩ := f
  dsimp only at hdg hq
  obtain ⟨hend, rfl, rfl⟩ := xop_ret hxn hq
  intro H la locs cells slots h1 h2 h3 h4 h5
  have key := hE i pc hdg hend H la locs cells slots h2 h3 h4 h5
  have e1 : (v.map (xc base b)).toList = v.toList.map (xc base b) := by cases v <;> rfl
  rw [e1] at key
  exact key
def xMet (n : Nat) : Prop := ∀ (l : Launch) (D : va_G) (cA : Nat → ClassId) (base b d k : Nat) (as : List Value) (h h' : xHp) (v : Option Value), xrun n d none k (0, xent k as, [], h) = some (v, h') → 0 < k → k < xnM → (xarg as).length ≤ xnL k → h'.1.length ≤ xS → xMt l D cA base b d k as h h' v
theorem xpre {a b : xSh} {t : xSh} (h : b = a ++ t) : a.length ≤ b.length ∧ xsl a ≤ xsl b := by
  rw [h, xsl_app, List.length_append]
  omega
theorem x_W {v : Option Value} (hc : xCtx p R s m args meth c D cA base b n0 scr j d) (hE : xHE p l e R s m args below meth c D cA base b n0 s0 Q j v h') (hn : h'.1.length ≤ n0 + R.cells) (hs : xsl h'.1 ≤ s0 + R.slots) (hS : h'.1.length ≤ xS) : ∀ (n : Nat), (∀ k, k < n → xMet k) → ∀ (f : xCf), xrun n d scr j f = some (v, h') → xWA p l e R s m args below meth c D cA base b n0 s0 Q j f := by
  intro n
  induction n with
  | zero => intro _ f hr; cases hr
  | succ n ih =>
    intro hMs f hr
    rw [xrun] at hr
    cases hst : xstep scr j f with
    | none => rw [hst] at hr; cases hr
    | some q =>
      have hg := xstep_grow hst
      rw [hst] at hr
      rcases q with f1 | ⟨k, as, f1⟩ | v1
      · obtain ⟨t, ht⟩ := hg
        obtain ⟨t', ht'⟩ := xrun_grow _ _ _ _ _ _ _ hr
        obtain ⟨a1, a2⟩ := xpre ht
        obtain ⟨b1, b2⟩ := xpre ht'
        exact x_step hc hst (by omega) (by omega) (by omega) (by omega) (ih (fun k hk => hMs k (by omega)) f1 hr)
      · have hg : f1.2.2.2 = f.2.2.2 := hg
        cases d with
        | zero => cases hr
        | succ d =>
          simp only at hr
          cases hr1 : xrun n d none k (0, xent k as, [], f1.2.2.2) with
          | none => rw [hr1] at hr; cases hr
          | some q =>
            obtain ⟨w, h1⟩ := q
            rw [hr1] at hr
            obtain ⟨t, ht⟩ := xrun_grow _ _ _ _ _ _ _ hr1
            obtain ⟨t', ht'⟩ := xrun_grow _ _ _ _ _ _ _ hr
            obtain ⟨a1, a2⟩ := xpre ht
            obtain ⟨b1, b2⟩ := xpre ht'
            dsimp only at a1 a2 b1 b2
            exact x_callstep hc hst (fun z1 z2 z3 => hMs n (by omega) l D cA base b d k as f1.2.2.2 h1 w hr1 z1 z2 z3 (by omega)) a1 a2 (by omega) (by omega) (by omega) (ih (fun k hk => hMs k (by omega)) _ hr)
      · cases hr
        exact x_retstep hst hE
end XR
theorem xarg_len (base b : Nat) : ∀ as : List Value, (lg_sl (as.map (xc base b))).length = (xarg as).length
  | [] => rfl
  | v :: as => by
    have ih := xarg_len base b as
    rw [List.map_cons]
    unfold lg_sl at ih ⊢
    rw [List.flatMap_cons, List.length_append, ih, xarg, xc_cat]
    by_cases hv : v.category = 2
    · simp [hv]; omega
    · simp [hv]; omega
theorem xarg_mem (base b : Nat) : ∀ (as : List Value) (i0 i : Nat) (v : Value), (xarg as)[i]? = some (some v) → (i0 + i, xc base b v) ∈ lv_args i0 (as.map (xc base b))
  | [], _, _, _, h => by simp [xarg] at h
  | w :: as, i0, i, v, h => by
    rw [List.map_cons, lv_args, xc_cat]
    rw [xarg] at h
    by_cases hw : w.category = 2
    · rw [if_pos hw] at h ⊢
      match i, h with
      | 0, h =>
        simp at h
        rw [h]
        exact List.mem_cons_self
      | 1, h => simp at h
      | i + 2, h =>
        have h' : (xarg as)[i]? = some (some v) := by simpa using h
        have := xarg_mem base b as (i0 + 2) i v h'
        rw [show i0 + (i + 2) = i0 + 2 + i by omega]
        exact List.mem_cons_of_mem _ this
    · rw [if_neg hw] at h ⊢
      match i, h with
      | 0, h =>
        simp at h
        rw [h]
        exact List.mem_cons_self
      | i + 1, h =>
        have h' : (xarg as)[i]? = some (some v) := by simpa using h
        have := xarg_mem base b as (i0 + 1) i v h'
        rw [show i0 + (i + 1) = i0 + 1 + i by omega]
        exact List.mem_cons_of_mem _ this
theorem xent_ok {base b k : Nat} {as : List Value} {la : Array Slot} (hlen : (xarg as).length ≤ xnL k) (hl : lv_has la (xnL k) (lv_args 0 (as.map (xc base b)))) : xlh base b (xnL k) la (xent k as) := by
  refine ⟨lv_mono hl fun q hq => ?_, by simp [xent]; omega⟩
  obtain ⟨v, h1, h2⟩ := xlv_mem.mp hq
  unfold xent at h1
  by_cases hi : q.1 < (xarg as).length
  · rw [List.getElem?_append_left hi] at h1
    have := xarg_mem base b as 0 q.1 v h1
    rw [Nat.zero_add, h2] at this
    exact this
  · rw [List.getElem?_append_right (by omega), List.getElem?_replicate] at h1
    split at h1 <;> simp at h1
theorem x_met (n : Nat) : xMet n := by
  induction n using Nat.strongRecOn with
  | ind n ih =>
    intro l D cA base b d k as h h' v hr h0 hk hlen hS
    obtain ⟨t, ht⟩ := xrun_grow _ _ _ _ _ _ _ hr
    obtain ⟨a1, a2⟩ := xpre ht
    dsimp only at a1 a2
    obtain ⟨f1, f2, f3, f4, f5, f6⟩ := f_cls hk
    refine va_MetF (cc := xB k) (maxL := xnL k) (ret := xRt k) f3 rfl ?_
    intro p e s m args below meth c s₁ B hml hv
    obtain ⟨rfl, hsz, hP, hK, hN, hAO⟩ := hv
    have hlocks := B.notSynchronized
    have hx := B.exec
    have hb := B.bytes
    have hret := B.returns
    have hctx : xCtx p (xRm d (h'.1.length - h.1.length) (xsl h'.1 - xsl h.1)) s m (as.map (xc base b)).toArray meth c D cA base b h.1.length none k d :=
      ⟨hx, hb, hml, by rw [f4]; exact findClass_of_methodNamed B.named, fun ci hi => ⟨by rw [(name_of_methodNamed B.named B.method).1]; exact (f5 ci hi).1, (f5 ci hi).2⟩, fun w hw => atoms_spec (ws := xWs k) B.pre w (List.mem_cons_of_mem _ hw), hK, hN, hAO, hsz, fun q z => (by cases z), Nat.le_refl _, Nat.le_refl _⟩
    have hE : xHE p l e (xRm d (h'.1.length - h.1.length) (xsl h'.1 - xsl h.1)) s m (as.map (xc base b)).toArray below meth c D cA base b h.1.length (xsl h.1) (MQ below (xQc D cA base b v h') (as.map (xc base b)).toArray s (h'.1.length - h.1.length) (xsl h'.1 - xsl h.1) (xA base)) k v h' := by
      intro i pc hdg hend H la locs cells slots g1 g2 g3 g4
      obtain rfl : cells = h'.1.length - h.1.length := by omega
      obtain rfl : slots = xsl h'.1 - xsl h.1 := by omega
      rcases hend with ⟨rfl, x, rfl, hk0⟩ | ⟨rfl, ⟨x, rfl⟩, hk0⟩ | ⟨rfl, ⟨x, rfl⟩, hk0⟩ | ⟨rfl, rfl, hk0⟩
      · rcases hk0 with hk0 | ⟨hk0, hx01⟩
        · exact W.iret hx hb (hret.trans (by rw [xRt, hk0]; rfl)) (fun t ht hW => ⟨⟨rfl, by rw [ht]; exact g1⟩, g2.F ht⟩) g2.2.2 hdg hlocks
        · exact W.zret (ty := .boolean) hx hb (hret.trans (by rw [xRt, hk0]; rfl)) (by rcases hx01 with rfl | rfl <;> rfl) (fun t ht hW => ⟨⟨rfl, by rw [ht]; exact g1⟩, g2.F ht⟩) g2.2.2 hdg hlocks
      · exact W.lret hx hb (hret.trans (by rw [xRt, hk0]; rfl)) (fun t ht hW => ⟨⟨rfl, by rw [ht]; exact g1⟩, g2.F ht⟩) g2.2.2 hdg hlocks
      · exact W.aret hx hb (hret.trans (by rw [xRt, hk0]; rfl)) (Or.inl ⟨_, rfl⟩) (Or.inr ⟨_, rfl⟩) (fun t ht hW => ⟨⟨rfl, by rw [ht]; exact g1⟩, g2.F ht⟩) g2.2.2 hdg hlocks
      · exact W.vret hx hb (hret.trans (by rw [xRt, hk0]; rfl)) (fun t ht hW => ⟨⟨rfl, by rw [ht]; exact g1⟩, g2.F ht⟩) g2.2.2 hdg hlocks
    have hl := lv_entry (as.map (xc base b)) (n := xnL k) (by rw [xarg_len]; exact hlen)
    rw [lg_entry_eq]
    generalize (lg_sl (as.map (xc base b)) ++ List.replicate (xnL k - (lg_sl (as.map (xc base b))).length) Slot.unset).toArray = la at hl ⊢
    exact x_W hctx hE (by show h'.1.length ≤ h.1.length + (h'.1.length - h.1.length); omega) (by show xsl h'.1 ≤ xsl h.1 + (xsl h'.1 - xsl h.1); omega) hS n (fun k hk => ih k hk) (0, xent k as, [], h) hr s.heap la [] 0 0 (xent_ok hlen hl) hP va_S.rf (Nat.zero_add _) (Nat.zero_add _)
end
section
section XX
variable {d j pc k n tgt : Nat} {scr : xScr} {ls : xLs} {st : List Value} {h : xHp} {i : Instr} {c' : xCf}
theorem xstep_of (hd : decode (xB j) pc = .ok (i, n)) (hn : xn i n = true) : xstep scr j (pc, ls, st, h) = xop scr j pc i ls st h := by
  unfold xstep
  simp only [hd, hn, if_true]
theorem X_op (hd : decode (xB j) pc = .ok (i, n)) (hn : xn i n = true) (hq : xop scr j pc i ls st h = some (.inl c')) : X d scr j (pc, ls, st, h) = X d scr j c' := X_next ((xstep_of hd hn).trans hq)
theorem X_rt {v : Option Value} (hd : decode (xB j) pc = .ok (i, n)) (hn : xn i n = true) (hq : xop scr j pc i ls st h = some (.inr (.inr v))) : X d scr j (pc, ls, st, h) = some (v, h) := X_ret ((xstep_of hd hn).trans hq)
theorem X_none {c : xCf} (hq : xstep scr j c = none) : X d scr j c = none := by
  rcases X_spec d scr j c with ⟨m, h1, h2⟩ | ⟨h1, -⟩
  · cases m with
    | zero => exact absurd h1.symm h2
    | succ m =>
      rw [xrun, hq] at h1
      exact absurd h1.symm h2
  · exact h1
theorem X_k {x : Int32} {v : Int} {m : Nat} (hd : decode (xB j) pc = .ok (i, n)) (hn : xn i n = true) (hq : ∀ ls st h, xop scr j pc i ls st h = xgo m ls (.int x :: st) h) : X d scr j (pc, ls, st, h) = X d scr j (m, ls, .int x :: st, h) := X_op hd hn (hq ls st h)
theorem X_go {off : Int} (hd : decode (xB j) pc = .ok (.goto off, 3)) (ht : (pc : Int) + off = (tgt : Int)) : X d scr j (pc, ls, st, h) = X d scr j (tgt, ls, st, h) := by
  refine X_op hd rfl ?_
  show xj pc off ls st h = _
  unfold xj
  rw [if_pos (by omega), ht]
  rfl
theorem xif_eq {cd : ClassFile.Cond} {x y : Int32} {off : Int} (ht : (pc : Int) + off = (tgt : Int)) : xif cd x y off pc ls st h = if xcond cd x y = true then xgo tgt ls st h else xgo (pc + 3) ls st h := by
  unfold xif
  rw [if_pos (by omega), ht]
  rfl
theorem X_i0 {cd : ClassFile.Cond} {x : Int32} {off : Int} (hd : decode (xB j) pc = .ok (.ifCond cd off, 3)) (ht : (pc : Int) + off = (tgt : Int)) : X d scr j (pc, ls, .int x :: st, h) = if xcond cd x 0 = true then X d scr j (tgt, ls, st, h) else X d scr j (pc + 3, ls, st, h) := by
  have e : xop scr j pc (.ifCond cd off) ls (.int x :: st) h = if xcond cd x 0 = true then xgo tgt ls st h else xgo (pc + 3) ls st h := xif_eq ht
  split
  · next hh => exact X_op hd rfl (e.trans (if_pos hh))
  · next hh => exact X_op hd rfl (e.trans (if_neg hh))
theorem X_i2 {cd : ClassFile.Cond} {x y : Int32} {off : Int} (hd : decode (xB j) pc = .ok (.if_icmp cd off, 3)) (ht : (pc : Int) + off = (tgt : Int)) : X d scr j (pc, ls, .int y :: .int x :: st, h) = if xcond cd x y = true then X d scr j (tgt, ls, st, h) else X d scr j (pc + 3, ls, st, h) := by
  have e : xop scr j pc (.if_icmp cd off) ls (.int y :: .int x :: st) h = if xcond cd x y = true then xgo tgt ls st h else xgo (pc + 3) ls st h := xif_eq ht
  split
  · next hh => exact X_op hd rfl (e.trans (if_pos hh))
  · next hh => exact X_op hd rfl (e.trans (if_neg hh))
theorem X_ifeq {x : Int32} {off : Int} (hd : decode (xB j) pc = .ok (.ifCond .eq off, 3)) (ht : (pc : Int) + off = (tgt : Int)) : X d scr j (pc, ls, .int x :: st, h) = if x = 0 then X d scr j (tgt, ls, st, h) else X d scr j (pc + 3, ls, st, h) := by rw [X_i0 hd ht]; simp only [xcond, decide_eq_true_eq]
theorem X_ifne {x : Int32} {off : Int} (hd : decode (xB j) pc = .ok (.ifCond .ne off, 3)) (ht : (pc : Int) + off = (tgt : Int)) : X d scr j (pc, ls, .int x :: st, h) = if x = 0 then X d scr j (pc + 3, ls, st, h) else X d scr j (tgt, ls, st, h) := by rw [X_i0 hd ht]; simp only [xcond, decide_eq_true_eq, ite_not]
theorem X_iflt {x : Int32} {off : Int} (hd : decode (xB j) pc = .ok (.ifCond .lt off, 3)) (ht : (pc : Int) + off = (tgt : Int)) : X d scr j (pc, ls, .int x :: st, h) = if x < 0 then X d scr j (tgt, ls, st, h) else X d scr j (pc + 3, ls, st, h) := by rw [X_i0 hd ht]; simp only [xcond, decide_eq_true_eq]
theorem X_ifge {x : Int32} {off : Int} (hd : decode (xB j) pc = .ok (.ifCond .ge off, 3)) (ht : (pc : Int) + off = (tgt : Int)) : X d scr j (pc, ls, .int x :: st, h) = if 0 ≤ x then X d scr j (tgt, ls, st, h) else X d scr j (pc + 3, ls, st, h) := by rw [X_i0 hd ht]; simp only [xcond, decide_eq_true_eq]
theorem X_ifgt {x : Int32} {off : Int} (hd : decode (xB j) pc = .ok (.ifCond .gt off, 3)) (ht : (pc : Int) + off = (tgt : Int)) : X d scr j (pc, ls, .int x :: st, h) = if 0 < x then X d scr j (tgt, ls, st, h) else X d scr j (pc + 3, ls, st, h) := by rw [X_i0 hd ht]; simp only [xcond, decide_eq_true_eq]
theorem X_ifle {x : Int32} {off : Int} (hd : decode (xB j) pc = .ok (.ifCond .le off, 3)) (ht : (pc : Int) + off = (tgt : Int)) : X d scr j (pc, ls, .int x :: st, h) = if x ≤ 0 then X d scr j (tgt, ls, st, h) else X d scr j (pc + 3, ls, st, h) := by rw [X_i0 hd ht]; simp only [xcond, decide_eq_true_eq]
theorem X_iceq {x y : Int32} {off : Int} (hd : decode (xB j) pc = .ok (.if_icmp .eq off, 3)) (ht : (pc : Int) + off = (tgt : Int)) : X d scr j (pc, ls, .int y :: .int x :: st, h) = if x = y then X d scr j (tgt, ls, st, h) else X d scr j (pc + 3, ls, st, h) := by rw [X_i2 hd ht]; simp only [xcond, decide_eq_true_eq]
theorem X_icne {x y : Int32} {off : Int} (hd : decode (xB j) pc = .ok (.if_icmp .ne off, 3)) (ht : (pc : Int) + off = (tgt : Int)) : X d scr j (pc, ls, .int y :: .int x :: st, h) = if x = y then X d scr j (pc + 3, ls, st, h) else X d scr j (tgt, ls, st, h) := by rw [X_i2 hd ht]; simp only [xcond, decide_eq_true_eq, ite_not]
theorem X_iclt {x y : Int32} {off : Int} (hd : decode (xB j) pc = .ok (.if_icmp .lt off, 3)) (ht : (pc : Int) + off = (tgt : Int)) : X d scr j (pc, ls, .int y :: .int x :: st, h) = if x < y then X d scr j (tgt, ls, st, h) else X d scr j (pc + 3, ls, st, h) := by rw [X_i2 hd ht]; simp only [xcond, decide_eq_true_eq]
theorem X_icge {x y : Int32} {off : Int} (hd : decode (xB j) pc = .ok (.if_icmp .ge off, 3)) (ht : (pc : Int) + off = (tgt : Int)) : X d scr j (pc, ls, .int y :: .int x :: st, h) = if y ≤ x then X d scr j (tgt, ls, st, h) else X d scr j (pc + 3, ls, st, h) := by rw [X_i2 hd ht]; simp only [xcond, decide_eq_true_eq]
theorem X_icgt {x y : Int32} {off : Int} (hd : decode (xB j) pc = .ok (.if_icmp .gt off, 3)) (ht : (pc : Int) + off = (tgt : Int)) : X d scr j (pc, ls, .int y :: .int x :: st, h) = if y < x then X d scr j (tgt, ls, st, h) else X d scr j (pc + 3, ls, st, h) := by rw [X_i2 hd ht]; simp only [xcond, decide_eq_true_eq]
theorem X_icle {x y : Int32} {off : Int} (hd : decode (xB j) pc = .ok (.if_icmp .le off, 3)) (ht : (pc : Int) + off = (tgt : Int)) : X d scr j (pc, ls, .int y :: .int x :: st, h) = if x ≤ y then X d scr j (tgt, ls, st, h) else X d scr j (pc + 3, ls, st, h) := by rw [X_i2 hd ht]; simp only [xcond, decide_eq_true_eq]
theorem X_iald {a nn : Nat} {x : Int32} (hd : decode (xB j) pc = .ok (.iaload, 1)) (ha : h.1[a]? = some (0, nn)) : X d scr j (pc, ls, .int x :: .ref a :: st, h) = if x < 0 ∨ nn ≤ x.toNatClampNeg then none else X d scr j (pc + 1, ls, .int (h.2.1 a x.toNatClampNeg) :: st, h) := by
  split
  · next hh => exact X_none ((xstep_of hd rfl).trans (by show xIaload scr (pc + 1) ls (.int x :: .ref a :: st) h = none; simp only [xIaload, ha]; rw [if_neg (fun z => z.2 hh)]))
  · next hh => exact X_op hd rfl (by show xIaload scr (pc + 1) ls (.int x :: .ref a :: st) h = _; simp only [xIaload, ha]; rw [if_pos ⟨trivial, hh⟩])
theorem X_bald {a nn : Nat} {x : Int32} (hd : decode (xB j) pc = .ok (.baload, 1)) (ha : h.1[a]? = some (1, nn)) : X d scr j (pc, ls, .int x :: .ref a :: st, h) = if x < 0 ∨ nn ≤ x.toNatClampNeg then none else X d scr j (pc + 1, ls, .int (h.2.1 a x.toNatClampNeg) :: st, h) := by
  split
  · next hh => exact X_none ((xstep_of hd rfl).trans (by show xBaload (pc + 1) ls (.int x :: .ref a :: st) h = none; simp only [xBaload, ha]; rw [if_neg (fun z => z.2 hh)]))
  · next hh => exact X_op hd rfl (by show xBaload (pc + 1) ls (.int x :: .ref a :: st) h = _; simp only [xBaload, ha]; rw [if_pos ⟨trivial, hh⟩])
theorem X_lald {a nn : Nat} {x : Int32} (hd : decode (xB j) pc = .ok (.laload, 1)) (ha : h.1[a]? = some (2, nn)) : X d scr j (pc, ls, .int x :: .ref a :: st, h) = if x < 0 ∨ nn ≤ x.toNatClampNeg then none else X d scr j (pc + 1, ls, .long (h.2.2.1 a x.toNatClampNeg) :: st, h) := by
  split
  · next hh => exact X_none ((xstep_of hd rfl).trans (by show xLaload (pc + 1) ls (.int x :: .ref a :: st) h = none; simp only [xLaload, ha]; rw [if_neg (fun z => z.2 hh)]))
  · next hh => exact X_op hd rfl (by show xLaload (pc + 1) ls (.int x :: .ref a :: st) h = _; simp only [xLaload, ha]; rw [if_pos ⟨trivial, hh⟩])
theorem X_aald {a nn : Nat} {x : Int32} (hd : decode (xB j) pc = .ok (.aaload, 1)) (ha : h.1[a]? = some (3, nn)) : X d scr j (pc, ls, .int x :: .ref a :: st, h) = if x < 0 ∨ nn ≤ x.toNatClampNeg then none else X d scr j (pc + 1, ls, va_rf (h.2.2.2 a x.toNatClampNeg) :: st, h) := by
  split
  · next hh => exact X_none ((xstep_of hd rfl).trans (by show xAaload (pc + 1) ls (.int x :: .ref a :: st) h = none; simp only [xAaload, ha]; rw [if_neg (fun z => z.2 hh)]))
  · next hh => exact X_op hd rfl (by show xAaload (pc + 1) ls (.int x :: .ref a :: st) h = _; simp only [xAaload, ha]; rw [if_pos ⟨trivial, hh⟩])
theorem X_iast {a nn : Nat} {x y : Int32} (hd : decode (xB j) pc = .ok (.iastore, 1)) (ha : h.1[a]? = some (0, nn)) : X d scr j (pc, ls, .int y :: .int x :: .ref a :: st, h) = if x < 0 ∨ nn ≤ x.toNatClampNeg then none else X d scr j (pc + 1, ls, st, (h.1, xu h.2.1 a x.toNatClampNeg y, h.2.2)) := by
  split
  · next hh => exact X_none ((xstep_of hd rfl).trans (by show xIastore (pc + 1) ls (.int y :: .int x :: .ref a :: st) h = none; simp only [xIastore, ha]; rw [if_neg (fun z => z.2 hh)]))
  · next hh => exact X_op hd rfl (by show xIastore (pc + 1) ls (.int y :: .int x :: .ref a :: st) h = _; simp only [xIastore, ha]; rw [if_pos ⟨trivial, hh⟩])
theorem X_bast {a nn : Nat} {x y : Int32} (hd : decode (xB j) pc = .ok (.bastore, 1)) (ha : h.1[a]? = some (1, nn)) : X d scr j (pc, ls, .int y :: .int x :: .ref a :: st, h) = if x < 0 ∨ nn ≤ x.toNatClampNeg then none else X d scr j (pc + 1, ls, st, (h.1, xu h.2.1 a x.toNatClampNeg (vp_nar .boolean y), h.2.2)) := by
  split
  · next hh => exact X_none ((xstep_of hd rfl).trans (by show xBastore (pc + 1) ls (.int y :: .int x :: .ref a :: st) h = none; simp only [xBastore, ha]; rw [if_neg (fun z => z.2 hh)]))
  · next hh => exact X_op hd rfl (by show xBastore (pc + 1) ls (.int y :: .int x :: .ref a :: st) h = _; simp only [xBastore, ha]; rw [if_pos ⟨trivial, hh⟩])
theorem X_last {a nn : Nat} {x : Int32} {y : Int64} (hd : decode (xB j) pc = .ok (.lastore, 1)) (ha : h.1[a]? = some (2, nn)) : X d scr j (pc, ls, .long y :: .int x :: .ref a :: st, h) = if x < 0 ∨ nn ≤ x.toNatClampNeg then none else X d scr j (pc + 1, ls, st, (h.1, h.2.1, xu h.2.2.1 a x.toNatClampNeg y, h.2.2.2)) := by
  split
  · next hh => exact X_none ((xstep_of hd rfl).trans (by show xLastore (pc + 1) ls (.long y :: .int x :: .ref a :: st) h = none; simp only [xLastore, ha]; rw [if_neg (fun z => z.2 hh)]))
  · next hh => exact X_op hd rfl (by show xLastore (pc + 1) ls (.long y :: .int x :: .ref a :: st) h = _; simp only [xLastore, ha]; rw [if_pos ⟨trivial, hh⟩])
theorem X_cl {as : List Value} {f1 : xCf} (hd : decode (xB j) pc = .ok (i, n)) (hn : xn i n = true) (hq : xop scr j pc i ls st h = some (.inr (.inl (k, as, f1)))) : X (d + 1) scr j (pc, ls, st, h) = (X d none k (0, xent k as, [], f1.2.2.2)).bind fun q => X (d + 1) scr j (f1.1, f1.2.1, q.1.toList ++ f1.2.2.1, q.2) := X_call ((xstep_of hd hn).trans hq)
end XX
end
section
def R_law : String := "PageRasterLaw"
def lw_P (b : Addr) (xs : List Int32) (args : Array Value) (s : State) : Prop := args = #[.ref b] ∧ s.IntsAt b xs ∧ xs.length ≤ 1536 ∧ (Jvm.Cond.and given_1 narrow_1).before args s = true
def lw_Q (_ : Array Value) (s : State) (o : Outcome) (t : State) : Prop := o = .returned (some (.int 1)) ∧ Framed s o t [] 600000 7302250
def lw_Z (below : List Frame) (a : Array Value) (s : State) : State → Prop := fun t => ∃ o, t.status = .running ∧ Ended t below o ∧ lw_Q a s o t
theorem lw_ret {p : Program} {l : Launch} {e : Env} {s : State} {m : MethodId} {below : List Frame} {meth : Method} {c : Code} {b : Nat} (hx : p.tables.exec = Jvm.exec) (hb : c.code = code) (hr : meth.sig.returnType = ret) (hlocks : meth.locks = false) {pc : Nat} {H : Heap} {ls : Array Slot} (hdg : decode code pc = .ok (.ireturn, 1)) : W p l e room_1 s m #[Value.ref b] below meth c H [] 600000 7302250 (lw_Z below #[Value.ref b] s) (F0 m pc ls [.int 1]) := by
  intro T hT X
  obtain ⟨fs, hret, hrun, hended, hW, hframe⟩ := X.leave (v := some (.int 1)) (hlocks := hlocks) (fun h => by rw [hr] at h; cases h)
  have hmeth' : T.vm.method? m = some meth := X.method'
  refine ⟨T.setFrames fs, ?_, .returned (some (.int 1)), hrun, hended, rfl, ⟨_, rfl⟩, hW, hframe⟩
  jvm_step X.here [X.here.top, hx, hb, hdg, hmeth', hr, ret, narrow_b1]
  (try refine ⟨rfl, ?_⟩); (try refine ⟨rfl, ?_⟩)
  first | (intro acts; rw [hret _ acts rfl rfl rfl]) | rw [hret _ _ rfl rfl rfl]
  exact Steps.refl _
def lw_At (p : Program) (s : State) (m : MethodId) (meth : Method) (c : Code) (b L : Nat) (xs : Nat → Int32) : Prop :=
  p.tables.exec = Jvm.exec ∧ c.code = code ∧ meth.sig.returnType = ret ∧ c.maxLocals = 4 ∧ s.vm.findClass R_law = some m.cls ∧ (∀ w ∈ lw_tbl, w.before #[Value.ref b] s = true) ∧ va_X b L xs s s.heap ∧ b < s.heap.size ∧ meth.locks = false ∧ (Jvm.Cond.and given_1 narrow_1).before #[Value.ref b] s = true
end
section
theorem x_arr0 {s : State} {args : Array Value} {ty : FieldType} (hp : ∀ C, ty ≠ .object C) (h : (Cond.arrayClass ty).before args s = true) : ∃ cA : ClassId, ArrOfT s cA ty ∧ va_RA s cA ty := by
  obtain ⟨c, k, comp, h1, h2, h3⟩ := Cond.arrayClass_spec h
  refine ⟨c, fun n z => ⟨fun k h => (by cases h), k, h2, comp, h3⟩, ?_⟩
  cases ty with
  | object C => exact absurd rfl (hp C)
  | _ => exact h1
theorem x_arr1 {s : State} {C : String} (h : va_AO C s) : ∃ cA : ClassId, ArrOfT s cA (.object C) ∧ va_RA s cA (.object C) := by
  obtain ⟨comp, c, k, h1, h2, h3, h4, h5⟩ := Cond.arrayOver_spec h
  exact ⟨c, fun n z => ⟨fun k h => (by cases h), k, h3, comp, h4⟩, k, comp, h3, h4, h1, h5⟩
theorem x_know {s : State} {args : Array Value} (hts : ∀ w ∈ lw_tbl, w.before args s = true) : ∃ (D : va_G) (cA : Nat → ClassId), va_K D xCl (xtys cA) s ∧ va_AO xSTn s := by
  have hw : ∀ w ∈ xgw, w.before args s = true := fun w h => hts w (List.mem_filter.mp h).1
  have hib : ∀ ci, ci < 7 → (Cond.instantiable (xCN ci) (xNF ci)).before args s = true := by
    intro ci h
    match ci, h with
    | 0, _ => exact hw _ w_ib_0
    | 1, _ => exact hw _ w_ib_1
    | 2, _ => exact hw _ w_ib_2
    | 3, _ => exact hw _ w_ib_3
    | 4, _ => exact hw _ w_ib_4
    | 5, _ => exact hw _ w_ib_5
    | 6, _ => exact hw _ w_ib_6
  have hk : ∀ ci, ∃ q : ClassId × (Nat → Nat), ci < 7 → u_Kn s (xCN ci) (xT ci) (xNF ci) q.1 q.2 := by
    intro ci
    by_cases h : ci < 7
    · obtain ⟨c, i, hc⟩ := u_known hw (f_lay h) (hib ci h)
      exact ⟨(c, i), fun _ => hc⟩
    · exact ⟨(0, fun _ => 0), fun z => absurd z h⟩
  have hao : va_AO xSTn s := va_AO.of (hts _ w_ao)
  obtain ⟨a0, b0, c0⟩ := x_arr0 (by intro C h; cases h) (hw _ f_a0)
  obtain ⟨a1, b1, c1⟩ := x_arr0 (by intro C h; cases h) (hw _ f_a1)
  obtain ⟨a2, b2, c2⟩ := x_arr0 (by intro C h; cases h) (hw _ f_a2)
  obtain ⟨a3, b3, c3⟩ := x_arr1 hao
  refine ⟨(fun ci => (Classical.choose (hk ci)).1, fun ci => (Classical.choose (hk ci)).2), fun n => if n = 0 then a0 else if n = 1 then a1 else if n = 2 then a2 else a3, ⟨fun ci q hq => ?_, fun k q hq => ?_⟩, hao⟩
  · have hlt : ci < 7 := by
      have := (List.getElem?_eq_some_iff.mp hq).1
      simpa [xCl] using this
    rw [f_cl hlt] at hq
    cases hq
    exact Classical.choose_spec (hk ci) hlt
  · have hlt : k < 4 := (List.getElem?_eq_some_iff.mp hq).1
    match k, hlt, hq with
    | 0, _, hq => cases hq; exact ⟨b0, c0⟩
    | 1, _, hq => cases hq; exact ⟨b1, c1⟩
    | 2, _, hq => cases hq; exact ⟨b2, c2⟩
    | 3, _, hq => cases hq; exact ⟨b3, c3⟩
def xh0 : xHp := ([], fun _ _ => 0, fun _ _ => 0, fun _ _ => none)
def xPure : Prop := ∀ (L : Nat) (xs : Nat → Int32), L ≤ 1536 → ∃ h' : xHp, X 7 (some (L, xs)) 0 (0, [some (.ref xS), none, none, none], [], xh0) = some (some (.int 1), h') ∧ h'.1.length ≤ 600000 ∧ xsl h'.1 ≤ 7302250
theorem whole_of (HP : xPure) {p : Program} {e : Env} {s : State} {m : MethodId} {below : List Frame} {meth : Method} {c : Code} (l : Launch) {b L : Nat} {xs : Nat → Int32} (hL : L ≤ 1536) (C0 : lw_At p s m meth c b L xs) : W p l e room_1 s m #[Value.ref b] below meth c s.heap [] 0 0 (lw_Z below #[Value.ref b] s) (entryFrame m ([Value.ref b] : List Value).toArray 4) := by
  obtain ⟨hx, hb, hr, hml, hown, hts, hX, hbl, hlocks, -⟩ := C0
  obtain ⟨h', hrun, hc1, hc2⟩ := HP L xs hL
  obtain ⟨n, hrun⟩ := X_run hrun
  obtain ⟨D, cA, hK, hAO⟩ := x_know hts
  have hctx : xCtx p room_1 s m #[Value.ref b] meth c D cA s.heap.size b 0 (some (L, xs)) 0 7 :=
    ⟨hx, hb, hml, hown, fun ci z => (by rw [show xIni 0 = none by decide +kernel] at z; cases z), fun w h => hts w (List.mem_filter.mp h).1, hK, fun q hq => va_Nw.of rfl (hts _ (w_ns q hq)), hAO, rfl, fun q z => (by cases z; exact ⟨hX, hbl⟩), by decide, by decide⟩
  have hE : xHE p l e room_1 s m #[Value.ref b] below meth c D cA s.heap.size b 0 0 (lw_Z below #[Value.ref b] s) 0 (some (.int 1)) h' := by
    intro i pc hdg hend H la locs cells slots g1 g2 g3 g4
    rcases hend with ⟨rfl, -⟩ | ⟨-, ⟨x, hv⟩, -⟩ | ⟨-, ⟨x, hv⟩, -⟩ | ⟨-, hv, -⟩
    · refine va_forget (fun q hq => g2.2.2 q hq) ?_
      refine W.widen (k := 600000) (n := 7302250) (by omega) (by omega) ?_
      exact lw_ret hx hb hr hlocks hdg
    · cases hv
    · cases hv
    · cases hv
  have hl := lv_entry ([Value.ref b]) (n := 4) (Nat.le_of_ble_eq_true rfl)
  rw [lg_entry_eq]
  generalize (lg_sl ([Value.ref b]) ++ List.replicate (4 - (lg_sl ([Value.ref b])).length) Slot.unset).toArray = la at hl ⊢
  have hl : lv_has la 4 [(0, .ref b)] := hl
  have hlh : xlh s.heap.size b (xnL 0) la [some (.ref xS), none, none, none] := by
    refine ⟨lv_mono hl fun q hq => ?_, rfl⟩
    obtain ⟨v, h1, h2⟩ := xlv_mem.mp hq
    have e3 : xa s.heap.size b xS = b := if_pos rfl
    obtain ⟨k, w⟩ := q
    match k, h1 with
    | 0, h1 =>
      have h1 : some (Value.ref xS) = some v := Option.some.inj h1
      cases h1
      have h2 : Value.ref (xa s.heap.size b xS) = w := h2
      rw [e3] at h2
      rw [← h2]
      exact List.mem_cons_self
    | 1, h1 => simp at h1
    | 2, h1 => simp at h1
    | 3, h1 => simp at h1
    | k + 4, h1 => simp at h1
  exact x_W hctx hE (by show h'.1.length ≤ 0 + 600000; omega) (by show xsl h'.1 ≤ 0 + 7302250; omega) (Nat.le_trans hc1 (by decide)) n (fun k _ => x_met k) (0, [some (.ref xS), none, none, none], [], xh0) hrun s.heap la [] 0 0 hlh (fun k q hq => by cases hq) va_S.rf rfl rfl
end
section
theorem x_pure : xPure := by
  sorry
theorem whole_start {p : Program} {e : Env} {s : State} {m : MethodId} {below : List Frame} {meth : Method} {c : Code} (l : Launch) {b L : Nat} {xs : Nat → Int32} (hL : L ≤ 1536) (C0 : lw_At p s m meth c b L xs) : W p l e room_1 s m #[Value.ref b] below meth c s.heap [] 0 0 (lw_Z below #[Value.ref b] s) (entryFrame m ([Value.ref b] : List Value).toArray 4) := whole_of x_pure l hL C0
end
section
set_option maxHeartbeats 4000000 in
theorem lw_walk (l : Launch) (b : Addr) (xs : List Int32) : MetFree l x (headSpec (Jvm.Cond.code x code maxLocals ret :: tables_1) room_1) (lw_P b xs) (fun _ _ _ _ _ => True) lw_Q := by
  refine MetFree.of_bodyS (code := code) (maxLocals := maxLocals) (ret := ret) (by decide) ?_ ?_
  · intro args s m h hn
    obtain ⟨meth, c, h1, h2, h3, h4, h5, h6, -, -⟩ := Cond.code_spec hn (atoms_spec (ws := Jvm.Cond.code x code maxLocals ret :: tables_1) h _ List.mem_cons_self)
    exact ⟨meth, c, h1, h2, h3, h4, h5, h6⟩
  · intro p e s m args below meth c s₁ B hml0 hP _
    obtain ⟨rfl, hx, hbd, hgv⟩ := hP
    obtain ⟨scr, harrAt, hlist, hof, hsmall⟩ := hx
    obtain ⟨hcb, hkn, -, -⟩ := State.arrayAt?_spec harrAt
    have hown : s.vm.findClass R_law = some m.cls := findClass_of_methodNamed B.named
    have hts0 : ∀ c ∈ (Jvm.Cond.code x code maxLocals ret :: tables_1), c.before #[Value.ref b] s = true := atoms_spec (ws := Jvm.Cond.code x code maxLocals ret :: tables_1) B.pre
    have hts : ∀ w ∈ lw_tbl, w.before #[Value.ref b] s = true := k2_hts_sels lw_privs (fun w hw => hts0 w (List.mem_cons_of_mem _ hw)) lw_privs_ok
    have hml : c.maxLocals = 4 := B.maxLocals_eq (hts0 _ List.mem_cons_self)
    have X₀ : Stand p l e room_1 s m #[Value.ref b] below meth c s₁ [] 0 0 := Stand.of_body B
    have hh0 : s₁.heap = s.heap := by rw [B.state]; rfl
    have hsz : scr.slots.size = xs.length := by rw [← Array.length_toList, hlist, List.length_map]
    have hval : ∀ j : Nat, j < xs.length → scr.slots[j]? = some (.int (xs.getD j 0)) := fun j hj => by
      rw [← Array.getElem?_toList, hlist]
      simp [hj]
    have hbl : b < s.heap.size := (Array.getElem?_eq_some_iff.mp hcb).1
    have hX : va_X b xs.length (fun j => xs.getD j 0) s s.heap := ⟨scr, hcb, hof, hkn, hsz, hval⟩
    have K : W p l e room_1 s m #[Value.ref b] below meth c s₁.heap [] 0 0 (lw_Z below #[Value.ref b] s) (entryFrame m ([Value.ref b] : List Value).toArray 4) := by
      rw [hh0]
      exact whole_start l hbd ⟨B.exec, B.bytes, B.returns, hml, hown, hts, hX, hbl, B.notSynchronized, hgv⟩
    obtain ⟨t, a1, o, b1, b2, b3⟩ := K s₁ rfl X₀
    exact ⟨t, o, a1, b1, b2, b3⟩
theorem lw_pre_spec {args : Array Value} {s : State} (h : (Jvm.Cond.and given_1 narrow_1).before args s = true) (hr : rest_1_c.before args s = true) : ∃ (b : Addr) (xs : List Int32), lw_P b xs args s := by
  have hs := flat_of_before _ h
  have hq := flat_of_before _ hr
  have hc : (Cond.count 1).before args s = true := hs _ (by decide +kernel)
  have harr : (Cond.arrayOf (.arg 0) .int).before args s = true := hs _ (by decide +kernel)
  have hle : (Cond.le (.length (.arg 0)) (.int 1536)).before args s = true := hs _ (by decide +kernel)
  have hlen : (Cond.isInt (.length (.arg 0))).before args s = true := hq _ (by decide +kernel)
  have hall : (Cond.all (.arg 0) (.isInt (.elem (.arg 0) (.index 0)))).before args s = true := hq _ (by decide +kernel)
  obtain ⟨b, xs, hb, hx⟩ := State.ints_of_pre rfl harr hlen hall
  have hsm : xs.length < 2 ^ 31 := hx.choose_spec.2.2.2
  have hev : (Term.length (.arg 0)).eval args s none [] s = some (.int xs.length.toInt32) := hx.length_eval hb
  have hv := Cond.le_ints hev (show (Term.int 1536).eval args s none [] s = some (.int 1536) from rfl)
  have hd : xs.length.toInt32 ≤ 1536 := by
    simpa [Cond.before, Cond.holds, hv] using hle
  have hN : xs.length ≤ 1536 := (Int32.ofNat_le_ofNat hsm (by decide)).mp (show Int32.ofNat xs.length ≤ Int32.ofNat 1536 from hd)
  exact ⟨b, xs, Cond.one_arg hc (show args[0]? = some (.ref b) from hb), hx, hN, h⟩
theorem lw_comes (l : Launch) : Comes l x (Jvm.Cond.code x code maxLocals ret :: tables_1) room_1 (fun tb e args s => Calls_1 tb e args s ∧ rest_1 tb e args s ∧ Pre_1 tb e args s)
    (fun _ _ args s o t => lw_Q args s o t) := by
  intro p e ha hc hk s m args below hf hfit hheap happ hpre
  obtain ⟨b, xs, hP⟩ := lw_pre_spec hpre.2.2 hpre.2.1
  obtain ⟨k, o, h1, h2, h3, hQ⟩ := lw_walk l b xs p e ha hc hk s m args below hf ((Spec.applies_iff_loose hf).mp happ).1 hP trivial
  exact ⟨k, o, h1, h2, h3, hQ⟩
theorem lw_frame {s t : State} {o : Outcome} {args : Array Value} (h : Framed s o t [] 600000 7302250) :
    Framed s o t (fieldLocs frame_1_writes args s ++ arrayLocs frame_1_arrays args s ++ staticLocs frame_1_statics s) 600000 7302250 := h
theorem lw_limb (L : Cond) (hL : ∀ (args : Array Value) (s t : State), L.after args s (.returned (some (.int 1))) t = true) :
    ArmFor flags0 classFile x code maxLocals ret World_1 tables_1 room_1 Calls_1 rest_1 Pre_1
      (fun tb e a s o t => postC L tb e a s o t ∧ Framed s o t (fieldLocs frame_1_writes a s ++ arrayLocs frame_1_arrays a s ++ staticLocs frame_1_statics s) 600000 7302250) := by
  intro l _ _ _ p e ha hc hk s m args below hf hfit hheap happ hpre
  obtain ⟨k, o, h1, h2, h3, rfl, hF⟩ := lw_comes l p e ha hc hk s m args below hf hfit hheap happ hpre
  exact ⟨k, _, h1, h2, h3, hL args s _, lw_frame hF⟩
theorem i_vc : Claimed_1_1 ∧ Claimed_1_2 := ⟨lw_limb limb_1_1 (fun args s t => by simp [limb_1_1, Cond.after, Cond.holds, Cond.value]), lw_limb limb_1_2 (fun args s t => Cond.after_iff.mpr (by
  first | (rw [show limb_1_2 = Cond.eq .result (.int 1) from rfl, Cond.eq_ints (x := 1) (y := 1) rfl rfl]; simp; done) | (simp [limb_1_2, Cond.value, Term.eval]; done)))⟩
end
