-- ===== PART A: goes FIRST, ahead of the names: the tables' words, and 'selects' of the private methods out of them =====
/-- a private method of a class that the tables say can be made, by its rows of tables_1 -/
def lw_okq (q : MethodName × Nat) : Prop := (q.1.cls ≠ "java/lang/invoke/MethodHandle" ∧ q.1.cls ≠ "java/lang/invoke/VarHandle") ∧ Cond.instantiable q.1.cls q.2 ∈ tables_1 ∧ Cond.privateMethod q.1 ∈ tables_1 ∧ Cond.instanceMethod q.1 ∈ tables_1
theorem lw_p0 : lw_okq (⟨"PieceSurfaces$Skeleton", "joinFaces", "(LPieceSurfaces$World;I)V"⟩, 9) := ⟨⟨by decide +kernel, by decide +kernel⟩, List.mem_of_getElem? (i := 83) (by decide +kernel), List.mem_of_getElem? (i := 315) (by decide +kernel), List.mem_of_getElem? (i := 316) (by decide +kernel)⟩
theorem lw_p1 : lw_okq (⟨"PieceSurfaces$Skeleton", "joinArrows", "(II)V"⟩, 9) := ⟨⟨by decide +kernel, by decide +kernel⟩, List.mem_of_getElem? (i := 83) (by decide +kernel), List.mem_of_getElem? (i := 333) (by decide +kernel), List.mem_of_getElem? (i := 334) (by decide +kernel)⟩
theorem lw_p2 : lw_okq (⟨"PieceSurfaces$Skeleton", "measureLines", "(I)V"⟩, 9) := ⟨⟨by decide +kernel, by decide +kernel⟩, List.mem_of_getElem? (i := 83) (by decide +kernel), List.mem_of_getElem? (i := 346) (by decide +kernel), List.mem_of_getElem? (i := 347) (by decide +kernel)⟩
theorem lw_p3 : lw_okq (⟨"PieceSurfaces$Survey", "isGood", "(I)Z"⟩, 12) := ⟨⟨by decide +kernel, by decide +kernel⟩, List.mem_of_getElem? (i := 26) (by decide +kernel), List.mem_of_getElem? (i := 368) (by decide +kernel), List.mem_of_getElem? (i := 369) (by decide +kernel)⟩
theorem lw_p4 : lw_okq (⟨"PieceSurfaces$Survey", "trace", "(LPieceSurfaces$Sheet;)V"⟩, 12) := ⟨⟨by decide +kernel, by decide +kernel⟩, List.mem_of_getElem? (i := 26) (by decide +kernel), List.mem_of_getElem? (i := 381) (by decide +kernel), List.mem_of_getElem? (i := 382) (by decide +kernel)⟩
theorem lw_p5 : lw_okq (⟨"PieceSurfaces$Survey", "joinPieces", "(LPieceSurfaces$Sheet;I)V"⟩, 12) := ⟨⟨by decide +kernel, by decide +kernel⟩, List.mem_of_getElem? (i := 26) (by decide +kernel), List.mem_of_getElem? (i := 388) (by decide +kernel), List.mem_of_getElem? (i := 389) (by decide +kernel)⟩
theorem lw_p6 : lw_okq (⟨"PieceSurfaces$Survey", "sideAt", "(LPieceSurfaces$Sheet;III)I"⟩, 12) := ⟨⟨by decide +kernel, by decide +kernel⟩, List.mem_of_getElem? (i := 26) (by decide +kernel), List.mem_of_getElem? (i := 400) (by decide +kernel), List.mem_of_getElem? (i := 401) (by decide +kernel)⟩
theorem lw_p7 : lw_okq (⟨"PieceSurfaces$Book", "isTrue", "(ILPieceSurfaces$World;LPieceSurfaces$Survey;)Z"⟩, 3) := ⟨⟨by decide +kernel, by decide +kernel⟩, List.mem_of_getElem? (i := 215) (by decide +kernel), List.mem_of_getElem? (i := 442) (by decide +kernel), List.mem_of_getElem? (i := 443) (by decide +kernel)⟩
theorem lw_p8 : lw_okq (⟨"PieceSurfaces$Matching", "enter", "(IIIILPieceSurfaces$Sheet;)V"⟩, 2) := ⟨⟨by decide +kernel, by decide +kernel⟩, List.mem_of_getElem? (i := 139) (by decide +kernel), List.mem_of_getElem? (i := 465) (by decide +kernel), List.mem_of_getElem? (i := 466) (by decide +kernel)⟩
theorem lw_p9 : lw_okq (⟨"PieceSurfaces", "hasFace", "(II)Z"⟩, 7) := ⟨⟨by decide +kernel, by decide +kernel⟩, List.mem_of_getElem? (i := 18) (by decide +kernel), List.mem_of_getElem? (i := 479) (by decide +kernel), List.mem_of_getElem? (i := 480) (by decide +kernel)⟩
theorem lw_p10 : lw_okq (⟨"PieceSurfaces", "hasBody", "(I)Z"⟩, 7) := ⟨⟨by decide +kernel, by decide +kernel⟩, List.mem_of_getElem? (i := 18) (by decide +kernel), List.mem_of_getElem? (i := 483) (by decide +kernel), List.mem_of_getElem? (i := 484) (by decide +kernel)⟩
theorem lw_p11 : lw_okq (⟨"PieceSurfaces", "hasEdge", "(II)Z"⟩, 7) := ⟨⟨by decide +kernel, by decide +kernel⟩, List.mem_of_getElem? (i := 18) (by decide +kernel), List.mem_of_getElem? (i := 497) (by decide +kernel), List.mem_of_getElem? (i := 498) (by decide +kernel)⟩
theorem lw_p12 : lw_okq (⟨"PieceSurfaces", "hasSurface", "(I)Z"⟩, 7) := ⟨⟨by decide +kernel, by decide +kernel⟩, List.mem_of_getElem? (i := 18) (by decide +kernel), List.mem_of_getElem? (i := 506) (by decide +kernel), List.mem_of_getElem? (i := 507) (by decide +kernel)⟩
theorem lw_p13 : lw_okq (⟨"PieceSurfaces$Survey", "type", "(LPieceSurfaces$Sheet;)I"⟩, 12) := ⟨⟨by decide +kernel, by decide +kernel⟩, List.mem_of_getElem? (i := 26) (by decide +kernel), List.mem_of_getElem? (i := 525) (by decide +kernel), List.mem_of_getElem? (i := 526) (by decide +kernel)⟩
theorem lw_p14 : lw_okq (⟨"PieceSurfaces$Survey", "splits", "(LPieceSurfaces$Sheet;)I"⟩, 12) := ⟨⟨by decide +kernel, by decide +kernel⟩, List.mem_of_getElem? (i := 26) (by decide +kernel), List.mem_of_getElem? (i := 529) (by decide +kernel), List.mem_of_getElem? (i := 530) (by decide +kernel)⟩
theorem lw_p15 : lw_okq (⟨"PieceSurfaces$Survey", "listUsed", "(LPieceSurfaces$Sheet;)V"⟩, 12) := ⟨⟨by decide +kernel, by decide +kernel⟩, List.mem_of_getElem? (i := 26) (by decide +kernel), List.mem_of_getElem? (i := 536) (by decide +kernel), List.mem_of_getElem? (i := 537) (by decide +kernel)⟩
def lw_privs_1 : List (MethodName × Nat) := [(⟨"PieceSurfaces$Skeleton", "joinFaces", "(LPieceSurfaces$World;I)V"⟩, 9), (⟨"PieceSurfaces$Skeleton", "joinArrows", "(II)V"⟩, 9), (⟨"PieceSurfaces$Skeleton", "measureLines", "(I)V"⟩, 9), (⟨"PieceSurfaces$Survey", "isGood", "(I)Z"⟩, 12), (⟨"PieceSurfaces$Survey", "trace", "(LPieceSurfaces$Sheet;)V"⟩, 12), (⟨"PieceSurfaces$Survey", "joinPieces", "(LPieceSurfaces$Sheet;I)V"⟩, 12), (⟨"PieceSurfaces$Survey", "sideAt", "(LPieceSurfaces$Sheet;III)I"⟩, 12), (⟨"PieceSurfaces$Book", "isTrue", "(ILPieceSurfaces$World;LPieceSurfaces$Survey;)Z"⟩, 3), (⟨"PieceSurfaces$Matching", "enter", "(IIIILPieceSurfaces$Sheet;)V"⟩, 2), (⟨"PieceSurfaces", "hasFace", "(II)Z"⟩, 7), (⟨"PieceSurfaces", "hasBody", "(I)Z"⟩, 7), (⟨"PieceSurfaces", "hasEdge", "(II)Z"⟩, 7), (⟨"PieceSurfaces", "hasSurface", "(I)Z"⟩, 7), (⟨"PieceSurfaces$Survey", "type", "(LPieceSurfaces$Sheet;)I"⟩, 12), (⟨"PieceSurfaces$Survey", "splits", "(LPieceSurfaces$Sheet;)I"⟩, 12), (⟨"PieceSurfaces$Survey", "listUsed", "(LPieceSurfaces$Sheet;)V"⟩, 12)]
theorem lw_r1 : ∀ q ∈ lw_privs_1, lw_okq q := List.forall_mem_cons.mpr ⟨lw_p0, List.forall_mem_cons.mpr ⟨lw_p1, List.forall_mem_cons.mpr ⟨lw_p2, List.forall_mem_cons.mpr ⟨lw_p3, List.forall_mem_cons.mpr ⟨lw_p4, List.forall_mem_cons.mpr ⟨lw_p5, List.forall_mem_cons.mpr ⟨lw_p6, List.forall_mem_cons.mpr ⟨lw_p7, List.forall_mem_cons.mpr ⟨lw_p8, List.forall_mem_cons.mpr ⟨lw_p9, List.forall_mem_cons.mpr ⟨lw_p10, List.forall_mem_cons.mpr ⟨lw_p11, List.forall_mem_cons.mpr ⟨lw_p12, List.forall_mem_cons.mpr ⟨lw_p13, List.forall_mem_cons.mpr ⟨lw_p14, List.forall_mem_cons.mpr ⟨lw_p15, fun _ h => absurd h List.not_mem_nil⟩⟩⟩⟩⟩⟩⟩⟩⟩⟩⟩⟩⟩⟩⟩⟩
theorem lw_p16 : lw_okq (⟨"PieceSurfaces$Survey", "nextPart", "(LPieceSurfaces$Sheet;)V"⟩, 12) := ⟨⟨by decide +kernel, by decide +kernel⟩, List.mem_of_getElem? (i := 26) (by decide +kernel), List.mem_of_getElem? (i := 540) (by decide +kernel), List.mem_of_getElem? (i := 541) (by decide +kernel)⟩
theorem lw_p17 : lw_okq (⟨"PieceSurfaces", "driftOnce", "()V"⟩, 7) := ⟨⟨by decide +kernel, by decide +kernel⟩, List.mem_of_getElem? (i := 18) (by decide +kernel), List.mem_of_getElem? (i := 652) (by decide +kernel), List.mem_of_getElem? (i := 653) (by decide +kernel)⟩
theorem lw_p18 : lw_okq (⟨"PieceSurfaces", "hasImage", "(I)Z"⟩, 7) := ⟨⟨by decide +kernel, by decide +kernel⟩, List.mem_of_getElem? (i := 18) (by decide +kernel), List.mem_of_getElem? (i := 699) (by decide +kernel), List.mem_of_getElem? (i := 700) (by decide +kernel)⟩
theorem lw_p19 : lw_okq (⟨"PieceSurfacesModel", "unglueAll", "()V"⟩, 13) := ⟨⟨by decide +kernel, by decide +kernel⟩, List.mem_of_getElem? (i := 716) (by decide +kernel), List.mem_of_getElem? (i := 722) (by decide +kernel), List.mem_of_getElem? (i := 723) (by decide +kernel)⟩
theorem lw_p20 : lw_okq (⟨"PieceSurfacesModel", "freeMany", "()I"⟩, 13) := ⟨⟨by decide +kernel, by decide +kernel⟩, List.mem_of_getElem? (i := 716) (by decide +kernel), List.mem_of_getElem? (i := 770) (by decide +kernel), List.mem_of_getElem? (i := 771) (by decide +kernel)⟩
theorem lw_p21 : lw_okq (⟨"PieceSurfacesModel", "walls", "()I"⟩, 13) := ⟨⟨by decide +kernel, by decide +kernel⟩, List.mem_of_getElem? (i := 716) (by decide +kernel), List.mem_of_getElem? (i := 774) (by decide +kernel), List.mem_of_getElem? (i := 775) (by decide +kernel)⟩
theorem lw_p22 : lw_okq (⟨"PieceSurfacesModel", "isFree", "(I)Z"⟩, 13) := ⟨⟨by decide +kernel, by decide +kernel⟩, List.mem_of_getElem? (i := 716) (by decide +kernel), List.mem_of_getElem? (i := 778) (by decide +kernel), List.mem_of_getElem? (i := 779) (by decide +kernel)⟩
theorem lw_p23 : lw_okq (⟨"PieceSurfacesModel", "points", "()I"⟩, 13) := ⟨⟨by decide +kernel, by decide +kernel⟩, List.mem_of_getElem? (i := 716) (by decide +kernel), List.mem_of_getElem? (i := 782) (by decide +kernel), List.mem_of_getElem? (i := 783) (by decide +kernel)⟩
theorem lw_p24 : lw_okq (⟨"PieceSurfacesModel", "layRoom", "()V"⟩, 13) := ⟨⟨by decide +kernel, by decide +kernel⟩, List.mem_of_getElem? (i := 716) (by decide +kernel), List.mem_of_getElem? (i := 786) (by decide +kernel), List.mem_of_getElem? (i := 787) (by decide +kernel)⟩
theorem lw_p25 : lw_okq (⟨"PieceSurfacesModel", "glueCorners", "(I)V"⟩, 13) := ⟨⟨by decide +kernel, by decide +kernel⟩, List.mem_of_getElem? (i := 716) (by decide +kernel), List.mem_of_getElem? (i := 790) (by decide +kernel), List.mem_of_getElem? (i := 791) (by decide +kernel)⟩
theorem lw_p26 : lw_okq (⟨"PieceSurfacesModel", "goesTo", "(II)I"⟩, 13) := ⟨⟨by decide +kernel, by decide +kernel⟩, List.mem_of_getElem? (i := 716) (by decide +kernel), List.mem_of_getElem? (i := 794) (by decide +kernel), List.mem_of_getElem? (i := 795) (by decide +kernel)⟩
theorem lw_p27 : lw_okq (⟨"PieceSurfacesModel", "lines", "()I"⟩, 13) := ⟨⟨by decide +kernel, by decide +kernel⟩, List.mem_of_getElem? (i := 716) (by decide +kernel), List.mem_of_getElem? (i := 810) (by decide +kernel), List.mem_of_getElem? (i := 811) (by decide +kernel)⟩
theorem lw_p28 : lw_okq (⟨"PieceSurfacesModel", "bents", "()I"⟩, 13) := ⟨⟨by decide +kernel, by decide +kernel⟩, List.mem_of_getElem? (i := 716) (by decide +kernel), List.mem_of_getElem? (i := 814) (by decide +kernel), List.mem_of_getElem? (i := 815) (by decide +kernel)⟩
theorem lw_p29 : lw_okq (⟨"PieceSurfacesModel", "bentMany", "()I"⟩, 13) := ⟨⟨by decide +kernel, by decide +kernel⟩, List.mem_of_getElem? (i := 716) (by decide +kernel), List.mem_of_getElem? (i := 818) (by decide +kernel), List.mem_of_getElem? (i := 819) (by decide +kernel)⟩
theorem lw_p30 : lw_okq (⟨"PieceSurfacesModel", "isBent", "(I)Z"⟩, 13) := ⟨⟨by decide +kernel, by decide +kernel⟩, List.mem_of_getElem? (i := 716) (by decide +kernel), List.mem_of_getElem? (i := 822) (by decide +kernel), List.mem_of_getElem? (i := 823) (by decide +kernel)⟩
theorem lw_p31 : lw_okq (⟨"PieceSurfacesModel", "goodMany", "()I"⟩, 13) := ⟨⟨by decide +kernel, by decide +kernel⟩, List.mem_of_getElem? (i := 716) (by decide +kernel), List.mem_of_getElem? (i := 826) (by decide +kernel), List.mem_of_getElem? (i := 827) (by decide +kernel)⟩
def lw_privs_2 : List (MethodName × Nat) := [(⟨"PieceSurfaces$Survey", "nextPart", "(LPieceSurfaces$Sheet;)V"⟩, 12), (⟨"PieceSurfaces", "driftOnce", "()V"⟩, 7), (⟨"PieceSurfaces", "hasImage", "(I)Z"⟩, 7), (⟨"PieceSurfacesModel", "unglueAll", "()V"⟩, 13), (⟨"PieceSurfacesModel", "freeMany", "()I"⟩, 13), (⟨"PieceSurfacesModel", "walls", "()I"⟩, 13), (⟨"PieceSurfacesModel", "isFree", "(I)Z"⟩, 13), (⟨"PieceSurfacesModel", "points", "()I"⟩, 13), (⟨"PieceSurfacesModel", "layRoom", "()V"⟩, 13), (⟨"PieceSurfacesModel", "glueCorners", "(I)V"⟩, 13), (⟨"PieceSurfacesModel", "goesTo", "(II)I"⟩, 13), (⟨"PieceSurfacesModel", "lines", "()I"⟩, 13), (⟨"PieceSurfacesModel", "bents", "()I"⟩, 13), (⟨"PieceSurfacesModel", "bentMany", "()I"⟩, 13), (⟨"PieceSurfacesModel", "isBent", "(I)Z"⟩, 13), (⟨"PieceSurfacesModel", "goodMany", "()I"⟩, 13)]
theorem lw_r2 : ∀ q ∈ lw_privs_2, lw_okq q := List.forall_mem_cons.mpr ⟨lw_p16, List.forall_mem_cons.mpr ⟨lw_p17, List.forall_mem_cons.mpr ⟨lw_p18, List.forall_mem_cons.mpr ⟨lw_p19, List.forall_mem_cons.mpr ⟨lw_p20, List.forall_mem_cons.mpr ⟨lw_p21, List.forall_mem_cons.mpr ⟨lw_p22, List.forall_mem_cons.mpr ⟨lw_p23, List.forall_mem_cons.mpr ⟨lw_p24, List.forall_mem_cons.mpr ⟨lw_p25, List.forall_mem_cons.mpr ⟨lw_p26, List.forall_mem_cons.mpr ⟨lw_p27, List.forall_mem_cons.mpr ⟨lw_p28, List.forall_mem_cons.mpr ⟨lw_p29, List.forall_mem_cons.mpr ⟨lw_p30, List.forall_mem_cons.mpr ⟨lw_p31, fun _ h => absurd h List.not_mem_nil⟩⟩⟩⟩⟩⟩⟩⟩⟩⟩⟩⟩⟩⟩⟩⟩
theorem lw_p32 : lw_okq (⟨"PieceSurfacesModel", "isGood", "(I)Z"⟩, 13) := ⟨⟨by decide +kernel, by decide +kernel⟩, List.mem_of_getElem? (i := 716) (by decide +kernel), List.mem_of_getElem? (i := 830) (by decide +kernel), List.mem_of_getElem? (i := 831) (by decide +kernel)⟩
theorem lw_p33 : lw_okq (⟨"PieceSurfacesModel", "layAbout", "(II)V"⟩, 13) := ⟨⟨by decide +kernel, by decide +kernel⟩, List.mem_of_getElem? (i := 716) (by decide +kernel), List.mem_of_getElem? (i := 834) (by decide +kernel), List.mem_of_getElem? (i := 835) (by decide +kernel)⟩
theorem lw_p34 : lw_okq (⟨"PieceSurfacesModel", "parts", "(IZ)I"⟩, 13) := ⟨⟨by decide +kernel, by decide +kernel⟩, List.mem_of_getElem? (i := 716) (by decide +kernel), List.mem_of_getElem? (i := 838) (by decide +kernel), List.mem_of_getElem? (i := 839) (by decide +kernel)⟩
theorem lw_p35 : lw_okq (⟨"PieceSurfacesModel", "join", "(I)V"⟩, 13) := ⟨⟨by decide +kernel, by decide +kernel⟩, List.mem_of_getElem? (i := 716) (by decide +kernel), List.mem_of_getElem? (i := 842) (by decide +kernel), List.mem_of_getElem? (i := 843) (by decide +kernel)⟩
theorem lw_p36 : lw_okq (⟨"PieceSurfacesModel", "joinArcs", "(III)V"⟩, 13) := ⟨⟨by decide +kernel, by decide +kernel⟩, List.mem_of_getElem? (i := 716) (by decide +kernel), List.mem_of_getElem? (i := 846) (by decide +kernel), List.mem_of_getElem? (i := 847) (by decide +kernel)⟩
theorem lw_p37 : lw_okq (⟨"PieceSurfacesModel", "arcsOf", "(III)I"⟩, 13) := ⟨⟨by decide +kernel, by decide +kernel⟩, List.mem_of_getElem? (i := 716) (by decide +kernel), List.mem_of_getElem? (i := 850) (by decide +kernel), List.mem_of_getElem? (i := 851) (by decide +kernel)⟩
theorem lw_p38 : lw_okq (⟨"PieceSurfacesModel", "pieceAt", "(IIII)I"⟩, 13) := ⟨⟨by decide +kernel, by decide +kernel⟩, List.mem_of_getElem? (i := 716) (by decide +kernel), List.mem_of_getElem? (i := 857) (by decide +kernel), List.mem_of_getElem? (i := 858) (by decide +kernel)⟩
theorem lw_p39 : lw_okq (⟨"PieceSurfacesModel", "isThere", "(II)Z"⟩, 13) := ⟨⟨by decide +kernel, by decide +kernel⟩, List.mem_of_getElem? (i := 716) (by decide +kernel), List.mem_of_getElem? (i := 867) (by decide +kernel), List.mem_of_getElem? (i := 868) (by decide +kernel)⟩
theorem lw_p40 : lw_okq (⟨"PieceSurfacesModel", "isTwoSided", "(II)Z"⟩, 13) := ⟨⟨by decide +kernel, by decide +kernel⟩, List.mem_of_getElem? (i := 716) (by decide +kernel), List.mem_of_getElem? (i := 871) (by decide +kernel), List.mem_of_getElem? (i := 872) (by decide +kernel)⟩
theorem lw_p41 : lw_okq (⟨"PieceSurfacesModel", "euler", "(I)I"⟩, 13) := ⟨⟨by decide +kernel, by decide +kernel⟩, List.mem_of_getElem? (i := 716) (by decide +kernel), List.mem_of_getElem? (i := 875) (by decide +kernel), List.mem_of_getElem? (i := 876) (by decide +kernel)⟩
theorem lw_p42 : lw_okq (⟨"PieceSurfacesModel", "allPieces", "(I)I"⟩, 13) := ⟨⟨by decide +kernel, by decide +kernel⟩, List.mem_of_getElem? (i := 716) (by decide +kernel), List.mem_of_getElem? (i := 879) (by decide +kernel), List.mem_of_getElem? (i := 880) (by decide +kernel)⟩
theorem lw_p43 : lw_okq (⟨"PieceSurfacesModel", "weightOf", "(III)I"⟩, 13) := ⟨⟨by decide +kernel, by decide +kernel⟩, List.mem_of_getElem? (i := 716) (by decide +kernel), List.mem_of_getElem? (i := 883) (by decide +kernel), List.mem_of_getElem? (i := 884) (by decide +kernel)⟩
theorem lw_p44 : lw_okq (⟨"PieceSurfacesModel", "arcsOfWall", "(II)I"⟩, 13) := ⟨⟨by decide +kernel, by decide +kernel⟩, List.mem_of_getElem? (i := 716) (by decide +kernel), List.mem_of_getElem? (i := 893) (by decide +kernel), List.mem_of_getElem? (i := 894) (by decide +kernel)⟩
theorem lw_p45 : lw_okq (⟨"PieceSurfacesModel", "border", "(I)I"⟩, 13) := ⟨⟨by decide +kernel, by decide +kernel⟩, List.mem_of_getElem? (i := 716) (by decide +kernel), List.mem_of_getElem? (i := 897) (by decide +kernel), List.mem_of_getElem? (i := 898) (by decide +kernel)⟩
theorem lw_p46 : lw_okq (⟨"PieceSurfacesModel", "characteristic", "()I"⟩, 13) := ⟨⟨by decide +kernel, by decide +kernel⟩, List.mem_of_getElem? (i := 716) (by decide +kernel), List.mem_of_getElem? (i := 901) (by decide +kernel), List.mem_of_getElem? (i := 902) (by decide +kernel)⟩
theorem lw_p47 : lw_okq (⟨"PieceSurfacesModel", "wrongEntry", "()I"⟩, 13) := ⟨⟨by decide +kernel, by decide +kernel⟩, List.mem_of_getElem? (i := 716) (by decide +kernel), List.mem_of_getElem? (i := 905) (by decide +kernel), List.mem_of_getElem? (i := 906) (by decide +kernel)⟩
def lw_privs_3 : List (MethodName × Nat) := [(⟨"PieceSurfacesModel", "isGood", "(I)Z"⟩, 13), (⟨"PieceSurfacesModel", "layAbout", "(II)V"⟩, 13), (⟨"PieceSurfacesModel", "parts", "(IZ)I"⟩, 13), (⟨"PieceSurfacesModel", "join", "(I)V"⟩, 13), (⟨"PieceSurfacesModel", "joinArcs", "(III)V"⟩, 13), (⟨"PieceSurfacesModel", "arcsOf", "(III)I"⟩, 13), (⟨"PieceSurfacesModel", "pieceAt", "(IIII)I"⟩, 13), (⟨"PieceSurfacesModel", "isThere", "(II)Z"⟩, 13), (⟨"PieceSurfacesModel", "isTwoSided", "(II)Z"⟩, 13), (⟨"PieceSurfacesModel", "euler", "(I)I"⟩, 13), (⟨"PieceSurfacesModel", "allPieces", "(I)I"⟩, 13), (⟨"PieceSurfacesModel", "weightOf", "(III)I"⟩, 13), (⟨"PieceSurfacesModel", "arcsOfWall", "(II)I"⟩, 13), (⟨"PieceSurfacesModel", "border", "(I)I"⟩, 13), (⟨"PieceSurfacesModel", "characteristic", "()I"⟩, 13), (⟨"PieceSurfacesModel", "wrongEntry", "()I"⟩, 13)]
theorem lw_r3 : ∀ q ∈ lw_privs_3, lw_okq q := List.forall_mem_cons.mpr ⟨lw_p32, List.forall_mem_cons.mpr ⟨lw_p33, List.forall_mem_cons.mpr ⟨lw_p34, List.forall_mem_cons.mpr ⟨lw_p35, List.forall_mem_cons.mpr ⟨lw_p36, List.forall_mem_cons.mpr ⟨lw_p37, List.forall_mem_cons.mpr ⟨lw_p38, List.forall_mem_cons.mpr ⟨lw_p39, List.forall_mem_cons.mpr ⟨lw_p40, List.forall_mem_cons.mpr ⟨lw_p41, List.forall_mem_cons.mpr ⟨lw_p42, List.forall_mem_cons.mpr ⟨lw_p43, List.forall_mem_cons.mpr ⟨lw_p44, List.forall_mem_cons.mpr ⟨lw_p45, List.forall_mem_cons.mpr ⟨lw_p46, List.forall_mem_cons.mpr ⟨lw_p47, fun _ h => absurd h List.not_mem_nil⟩⟩⟩⟩⟩⟩⟩⟩⟩⟩⟩⟩⟩⟩⟩⟩
theorem lw_p48 : lw_okq (⟨"PieceSurfacesModel", "isSurface", "(I)Z"⟩, 13) := ⟨⟨by decide +kernel, by decide +kernel⟩, List.mem_of_getElem? (i := 716) (by decide +kernel), List.mem_of_getElem? (i := 912) (by decide +kernel), List.mem_of_getElem? (i := 913) (by decide +kernel)⟩
theorem lw_p49 : lw_okq (⟨"PieceSurfacesModel", "isWell", "(I)Z"⟩, 13) := ⟨⟨by decide +kernel, by decide +kernel⟩, List.mem_of_getElem? (i := 716) (by decide +kernel), List.mem_of_getElem? (i := 919) (by decide +kernel), List.mem_of_getElem? (i := 920) (by decide +kernel)⟩
theorem lw_p50 : lw_okq (⟨"PieceSurfacesModel", "meets", "(I)Z"⟩, 13) := ⟨⟨by decide +kernel, by decide +kernel⟩, List.mem_of_getElem? (i := 716) (by decide +kernel), List.mem_of_getElem? (i := 923) (by decide +kernel), List.mem_of_getElem? (i := 924) (by decide +kernel)⟩
theorem lw_p51 : lw_okq (⟨"PieceSurfacesModel", "crosses", "(I)Z"⟩, 13) := ⟨⟨by decide +kernel, by decide +kernel⟩, List.mem_of_getElem? (i := 716) (by decide +kernel), List.mem_of_getElem? (i := 927) (by decide +kernel), List.mem_of_getElem? (i := 928) (by decide +kernel)⟩
theorem lw_p52 : lw_okq (⟨"PieceSurfacesModel", "isBody", "(I)Z"⟩, 13) := ⟨⟨by decide +kernel, by decide +kernel⟩, List.mem_of_getElem? (i := 716) (by decide +kernel), List.mem_of_getElem? (i := 936) (by decide +kernel), List.mem_of_getElem? (i := 937) (by decide +kernel)⟩
theorem lw_p53 : lw_okq (⟨"PieceSurfacesModel", "aroundOf", "(I)I"⟩, 13) := ⟨⟨by decide +kernel, by decide +kernel⟩, List.mem_of_getElem? (i := 716) (by decide +kernel), List.mem_of_getElem? (i := 952) (by decide +kernel), List.mem_of_getElem? (i := 953) (by decide +kernel)⟩
theorem lw_p54 : lw_okq (⟨"PieceSurfacesModel", "ofWell", "(II)I"⟩, 13) := ⟨⟨by decide +kernel, by decide +kernel⟩, List.mem_of_getElem? (i := 716) (by decide +kernel), List.mem_of_getElem? (i := 964) (by decide +kernel), List.mem_of_getElem? (i := 965) (by decide +kernel)⟩
theorem lw_p55 : lw_okq (⟨"PieceSurfacesModel", "name", "(I)I"⟩, 13) := ⟨⟨by decide +kernel, by decide +kernel⟩, List.mem_of_getElem? (i := 716) (by decide +kernel), List.mem_of_getElem? (i := 968) (by decide +kernel), List.mem_of_getElem? (i := 969) (by decide +kernel)⟩
theorem lw_p56 : lw_okq (⟨"PieceSurfacesModel", "split", "(I)I"⟩, 13) := ⟨⟨by decide +kernel, by decide +kernel⟩, List.mem_of_getElem? (i := 716) (by decide +kernel), List.mem_of_getElem? (i := 972) (by decide +kernel), List.mem_of_getElem? (i := 973) (by decide +kernel)⟩
theorem lw_p57 : lw_okq (⟨"PieceSurfacesModel", "remember", "()V"⟩, 13) := ⟨⟨by decide +kernel, by decide +kernel⟩, List.mem_of_getElem? (i := 716) (by decide +kernel), List.mem_of_getElem? (i := 988) (by decide +kernel), List.mem_of_getElem? (i := 989) (by decide +kernel)⟩
theorem lw_p58 : lw_okq (⟨"PieceSurfacesModel", "copyRow", "(II)V"⟩, 13) := ⟨⟨by decide +kernel, by decide +kernel⟩, List.mem_of_getElem? (i := 716) (by decide +kernel), List.mem_of_getElem? (i := 992) (by decide +kernel), List.mem_of_getElem? (i := 993) (by decide +kernel)⟩
theorem lw_p59 : lw_okq (⟨"PieceSurfacesModel", "mayGlue", "(II)Z"⟩, 13) := ⟨⟨by decide +kernel, by decide +kernel⟩, List.mem_of_getElem? (i := 716) (by decide +kernel), List.mem_of_getElem? (i := 1000) (by decide +kernel), List.mem_of_getElem? (i := 1001) (by decide +kernel)⟩
theorem lw_p60 : lw_okq (⟨"PieceSurfacesModel", "glueTo", "(III)V"⟩, 13) := ⟨⟨by decide +kernel, by decide +kernel⟩, List.mem_of_getElem? (i := 716) (by decide +kernel), List.mem_of_getElem? (i := 1005) (by decide +kernel), List.mem_of_getElem? (i := 1006) (by decide +kernel)⟩
theorem lw_p61 : lw_okq (⟨"PieceSurfacesModel", "newSurface", "()I"⟩, 13) := ⟨⟨by decide +kernel, by decide +kernel⟩, List.mem_of_getElem? (i := 716) (by decide +kernel), List.mem_of_getElem? (i := 1021) (by decide +kernel), List.mem_of_getElem? (i := 1022) (by decide +kernel)⟩
theorem lw_p62 : lw_okq (⟨"PieceSurfacesModel", "chance", "()V"⟩, 13) := ⟨⟨by decide +kernel, by decide +kernel⟩, List.mem_of_getElem? (i := 716) (by decide +kernel), List.mem_of_getElem? (i := 1045) (by decide +kernel), List.mem_of_getElem? (i := 1046) (by decide +kernel)⟩
theorem lw_p63 : lw_okq (⟨"PieceSurfacesModel", "draw", "(I)I"⟩, 13) := ⟨⟨by decide +kernel, by decide +kernel⟩, List.mem_of_getElem? (i := 716) (by decide +kernel), List.mem_of_getElem? (i := 1049) (by decide +kernel), List.mem_of_getElem? (i := 1050) (by decide +kernel)⟩
def lw_privs_4 : List (MethodName × Nat) := [(⟨"PieceSurfacesModel", "isSurface", "(I)Z"⟩, 13), (⟨"PieceSurfacesModel", "isWell", "(I)Z"⟩, 13), (⟨"PieceSurfacesModel", "meets", "(I)Z"⟩, 13), (⟨"PieceSurfacesModel", "crosses", "(I)Z"⟩, 13), (⟨"PieceSurfacesModel", "isBody", "(I)Z"⟩, 13), (⟨"PieceSurfacesModel", "aroundOf", "(I)I"⟩, 13), (⟨"PieceSurfacesModel", "ofWell", "(II)I"⟩, 13), (⟨"PieceSurfacesModel", "name", "(I)I"⟩, 13), (⟨"PieceSurfacesModel", "split", "(I)I"⟩, 13), (⟨"PieceSurfacesModel", "remember", "()V"⟩, 13), (⟨"PieceSurfacesModel", "copyRow", "(II)V"⟩, 13), (⟨"PieceSurfacesModel", "mayGlue", "(II)Z"⟩, 13), (⟨"PieceSurfacesModel", "glueTo", "(III)V"⟩, 13), (⟨"PieceSurfacesModel", "newSurface", "()I"⟩, 13), (⟨"PieceSurfacesModel", "chance", "()V"⟩, 13), (⟨"PieceSurfacesModel", "draw", "(I)I"⟩, 13)]
theorem lw_r4 : ∀ q ∈ lw_privs_4, lw_okq q := List.forall_mem_cons.mpr ⟨lw_p48, List.forall_mem_cons.mpr ⟨lw_p49, List.forall_mem_cons.mpr ⟨lw_p50, List.forall_mem_cons.mpr ⟨lw_p51, List.forall_mem_cons.mpr ⟨lw_p52, List.forall_mem_cons.mpr ⟨lw_p53, List.forall_mem_cons.mpr ⟨lw_p54, List.forall_mem_cons.mpr ⟨lw_p55, List.forall_mem_cons.mpr ⟨lw_p56, List.forall_mem_cons.mpr ⟨lw_p57, List.forall_mem_cons.mpr ⟨lw_p58, List.forall_mem_cons.mpr ⟨lw_p59, List.forall_mem_cons.mpr ⟨lw_p60, List.forall_mem_cons.mpr ⟨lw_p61, List.forall_mem_cons.mpr ⟨lw_p62, List.forall_mem_cons.mpr ⟨lw_p63, fun _ h => absurd h List.not_mem_nil⟩⟩⟩⟩⟩⟩⟩⟩⟩⟩⟩⟩⟩⟩⟩⟩
def lw_privs : List (MethodName × Nat) := lw_privs_1 ++ (lw_privs_2 ++ (lw_privs_3 ++ (lw_privs_4)))
def lw_tbl : List Cond := k2_sels lw_privs ++ tables_1
theorem lw_privs_ok : ∀ q ∈ lw_privs, lw_okq q := by
  show ∀ q ∈ lw_privs_1 ++ (lw_privs_2 ++ (lw_privs_3 ++ (lw_privs_4))), lw_okq q
  exact List.forall_mem_append.mpr ⟨lw_r1, List.forall_mem_append.mpr ⟨lw_r2, List.forall_mem_append.mpr ⟨lw_r3, lw_r4⟩⟩⟩
theorem goodIn_r {big : List Cond} (ws : List Cond) (ps : List Nat) (hp : ws = ps.filterMap (fun i => big[i]?)) (h : ws.all goodWord = true) : GoodIn big ws := by
  intro w hw
  have h1 := List.all_eq_true.mp h w hw
  rw [hp] at hw
  obtain ⟨i, -, hi⟩ := List.mem_filterMap.mp hw
  have hm : w ∈ big := by first | exact List.mem_of_getElem? hi | exact List.getElem?_mem hi
  exact ⟨hm, good_of_word h1⟩
theorem goodIn_app {big a b : List Cond} (ha : GoodIn big a) (hb : GoodIn big b) : GoodIn big (a ++ b) := fun w h => (List.mem_append.mp h).elim (ha w) (hb w)
theorem goodIn_ca {big a b : List Cond} {c : Cond} (ha : GoodIn big (c :: a)) (hb : GoodIn big b) : GoodIn big (c :: (a ++ b)) := fun w h => (List.mem_cons.mp h).elim (fun e => ha w (List.mem_cons.mpr (Or.inl e))) (fun h => (List.mem_append.mp h).elim (fun h => ha w (List.mem_cons.mpr (Or.inr h))) (hb w))
theorem goodIn_sub {big ws : List Cond} (hm : ∀ w ∈ ws, w ∈ big) (h : ws.all goodWord = true) : GoodIn big ws := fun w hw => ⟨hm w hw, good_of_word (List.all_eq_true.mp h w hw)⟩
def RX0 : String := "PieceSurfaces$Book"
def TX0 : u_T := fun k => match k with
  | 0 => ("PieceSurfaces$Book", "surfaces", "[I", true)
  | 1 => ("PieceSurfaces$Book", "values", "[I", true)
  | _ => ("PieceSurfaces$Book", "count", "I", false)
def tyX0 : Nat → FieldType := fun k => match k with
  | 0 => .array .int
  | 1 => .array .int
  | _ => .int
abbrev wsX00 : List Cond := u_ws RX0 TX0 3
theorem nmX0 : ∀ a, a < 3 → ∀ b, b < 3 → a ≠ b → (TX0 a).2.1 ≠ (TX0 b).2.1 := by decide +kernel
theorem tyX0_ok : ∀ k, k < 3 → parseFieldDescriptor (TX0 k).2.2.1 = some (tyX0 k) := by decide +kernel
abbrev cX0_init : ByteArray := prog_2_method_1_code
def yX0_init : MethodName := ⟨RX0, "<init>", "()V"⟩
abbrev cX0_isFull : ByteArray := prog_2_method_2_code
def yX0_isFull : MethodName := ⟨RX0, "isFull", "()Z"⟩
abbrev cX0_enter : ByteArray := prog_2_method_3_code
def yX0_enter : MethodName := ⟨RX0, "enter", "(II)V"⟩
abbrev cX0_firstWrong : ByteArray := prog_2_method_4_code
def yX0_firstWrong : MethodName := ⟨RX0, "firstWrong", "(LPieceSurfaces$World;LPieceSurfaces$Survey;)I"⟩
abbrev cX0_isTrue : ByteArray := prog_2_method_5_code
def yX0_isTrue : MethodName := ⟨RX0, "isTrue", "(ILPieceSurfaces$World;LPieceSurfaces$Survey;)Z"⟩
def RX1 : String := "PieceSurfaces$Classes"
def TX1 : u_T := fun k => match k with
  | 0 => ("PieceSurfaces$Classes", "up", "[I", true)
  | _ => ("PieceSurfaces$Classes", "size", "I", false)
def tyX1 : Nat → FieldType := fun k => match k with
  | 0 => .array .int
  | _ => .int
abbrev wsX10 : List Cond := u_ws RX1 TX1 2
theorem nmX1 : ∀ a, a < 2 → ∀ b, b < 2 → a ≠ b → (TX1 a).2.1 ≠ (TX1 b).2.1 := by decide +kernel
theorem tyX1_ok : ∀ k, k < 2 → parseFieldDescriptor (TX1 k).2.2.1 = some (tyX1 k) := by decide +kernel
abbrev cX1_init : ByteArray := prog_3_method_1_code
def yX1_init : MethodName := ⟨RX1, "<init>", "(I)V"⟩
abbrev cX1_begin : ByteArray := prog_3_method_2_code
def yX1_begin : MethodName := ⟨RX1, "begin", "(I)V"⟩
abbrev cX1_least : ByteArray := prog_3_method_3_code
def yX1_least : MethodName := ⟨RX1, "least", "(I)I"⟩
abbrev cX1_join : ByteArray := prog_3_method_4_code
def yX1_join : MethodName := ⟨RX1, "join", "(II)V"⟩
abbrev cX1_countClasses : ByteArray := prog_3_method_5_code
def yX1_countClasses : MethodName := ⟨RX1, "countClasses", "()I"⟩
abbrev cX1_numberThem : ByteArray := prog_3_method_6_code
def yX1_numberThem : MethodName := ⟨RX1, "numberThem", "([I)I"⟩
def RX2 : String := "PieceSurfaces$Dice"
def TX2 : u_T := fun k => match k with
  | _ => ("PieceSurfaces$Dice", "state", "I", false)
def tyX2 : Nat → FieldType := fun k => match k with
  | _ => .int
abbrev wsX20 : List Cond := u_ws RX2 TX2 1
theorem nmX2 : ∀ a, a < 1 → ∀ b, b < 1 → a ≠ b → (TX2 a).2.1 ≠ (TX2 b).2.1 := by decide +kernel
theorem tyX2_ok : ∀ k, k < 1 → parseFieldDescriptor (TX2 k).2.2.1 = some (tyX2 k) := by decide +kernel
abbrev cX2_init : ByteArray := prog_4_method_1_code
def yX2_init : MethodName := ⟨RX2, "<init>", "()V"⟩
abbrev cX2_below : ByteArray := prog_4_method_2_code
def yX2_below : MethodName := ⟨RX2, "below", "(I)I"⟩
def RX3 : String := "PieceSurfaces$Image"
def TX3 : u_T := fun k => match k with
  | 0 => ("PieceSurfaces$Image", "world", "LPieceSurfaces$World;", true)
  | 1 => ("PieceSurfaces$Image", "state", "I", false)
  | _ => ("PieceSurfaces$Image", "saved", "Z", false)
def tyX3 : Nat → FieldType := fun k => match k with
  | 0 => .object "PieceSurfaces$World"
  | 1 => .int
  | _ => .boolean
abbrev wsX30 : List Cond := u_ws RX3 TX3 3
theorem nmX3 : ∀ a, a < 3 → ∀ b, b < 3 → a ≠ b → (TX3 a).2.1 ≠ (TX3 b).2.1 := by decide +kernel
theorem tyX3_ok : ∀ k, k < 3 → parseFieldDescriptor (TX3 k).2.2.1 = some (tyX3 k) := by decide +kernel
abbrev cX3_init : ByteArray := prog_5_method_1_code
def yX3_init : MethodName := ⟨RX3, "<init>", "()V"⟩
abbrev cX3_save : ByteArray := prog_5_method_2_code
def yX3_save : MethodName := ⟨RX3, "save", "(LPieceSurfaces$World;LPieceSurfaces$Dice;)V"⟩
abbrev cX3_load : ByteArray := prog_5_method_3_code
def yX3_load : MethodName := ⟨RX3, "load", "(LPieceSurfaces$World;LPieceSurfaces$Dice;)V"⟩
def RX4 : String := "PieceSurfaces$Matching"
def TX4 : u_T := fun k => match k with
  | 0 => ("PieceSurfaces$Matching", "terms", "[I", true)
  | _ => ("PieceSurfaces$Matching", "count", "I", false)
def tyX4 : Nat → FieldType := fun k => match k with
  | 0 => .array .int
  | _ => .int
abbrev wsX40 : List Cond := u_ws RX4 TX4 2
theorem nmX4 : ∀ a, a < 2 → ∀ b, b < 2 → a ≠ b → (TX4 a).2.1 ≠ (TX4 b).2.1 := by decide +kernel
theorem tyX4_ok : ∀ k, k < 2 → parseFieldDescriptor (TX4 k).2.2.1 = some (tyX4 k) := by decide +kernel
abbrev cX4_init : ByteArray := prog_6_method_1_code
def yX4_init : MethodName := ⟨RX4, "<init>", "()V"⟩
abbrev cX4_read : ByteArray := prog_6_method_2_code
def yX4_read : MethodName := ⟨RX4, "read", "(LPieceSurfaces$World;LPieceSurfaces$Sheet;)V"⟩
abbrev cX4_enter : ByteArray := prog_6_method_3_code
def yX4_enter : MethodName := ⟨RX4, "enter", "(IIIILPieceSurfaces$Sheet;)V"⟩
abbrev cX4_holds : ByteArray := prog_6_method_4_code
def yX4_holds : MethodName := ⟨RX4, "holds", "(LPieceSurfaces$Sheet;)Z"⟩
def RX5 : String := "PieceSurfaces$Past"
def TX5 : u_T := fun k => match k with
  | 0 => ("PieceSurfaces$Past", "ring", "[LPieceSurfaces$World;", true)
  | 1 => ("PieceSurfaces$Past", "next", "I", false)
  | _ => ("PieceSurfaces$Past", "count", "I", false)
def tyX5 : Nat → FieldType := fun k => match k with
  | 0 => .array (.object "PieceSurfaces$World")
  | 1 => .int
  | _ => .int
abbrev wsX50 : List Cond := u_ws RX5 TX5 3
theorem nmX5 : ∀ a, a < 3 → ∀ b, b < 3 → a ≠ b → (TX5 a).2.1 ≠ (TX5 b).2.1 := by decide +kernel
theorem tyX5_ok : ∀ k, k < 3 → parseFieldDescriptor (TX5 k).2.2.1 = some (tyX5 k) := by decide +kernel
abbrev cX5_init : ByteArray := prog_7_method_1_code
def yX5_init : MethodName := ⟨RX5, "<init>", "()V"⟩
abbrev cX5_record : ByteArray := prog_7_method_2_code
def yX5_record : MethodName := ⟨RX5, "record", "(LPieceSurfaces$World;)V"⟩
abbrev cX5_restore : ByteArray := prog_7_method_3_code
def yX5_restore : MethodName := ⟨RX5, "restore", "(ILPieceSurfaces$World;)V"⟩
def RX6 : String := "PieceSurfaces$Shape"
def TX6 : u_T := fun k => match k with
  | _ => ("", "", "", false)
def tyX6 : Nat → FieldType := fun k => match k with
  | _ => .int
abbrev wsX60 : List Cond := u_ws RX6 TX6 0
theorem nmX6 : ∀ a, a < 0 → ∀ b, b < 0 → a ≠ b → (TX6 a).2.1 ≠ (TX6 b).2.1 := by decide +kernel
theorem tyX6_ok : ∀ k, k < 0 → parseFieldDescriptor (TX6 k).2.2.1 = some (tyX6 k) := by decide +kernel
abbrev cX6_together : ByteArray := prog_8_method_2_code
def yX6_together : MethodName := ⟨RX6, "together", "(II)I"⟩
def RX7 : String := "PieceSurfaces$Sheet"
def TX7 : u_T := fun k => match k with
  | _ => ("PieceSurfaces$Sheet", "numbers", "[I", true)
def tyX7 : Nat → FieldType := fun k => match k with
  | _ => .array .int
abbrev wsX70 : List Cond := u_ws RX7 TX7 1
theorem nmX7 : ∀ a, a < 1 → ∀ b, b < 1 → a ≠ b → (TX7 a).2.1 ≠ (TX7 b).2.1 := by decide +kernel
theorem tyX7_ok : ∀ k, k < 1 → parseFieldDescriptor (TX7 k).2.2.1 = some (tyX7 k) := by decide +kernel
abbrev cX7_init : ByteArray := prog_9_method_1_code
def yX7_init : MethodName := ⟨RX7, "<init>", "()V"⟩
abbrev cX7_clear : ByteArray := prog_9_method_2_code
def yX7_clear : MethodName := ⟨RX7, "clear", "()V"⟩
abbrev cX7_copyFrom : ByteArray := prog_9_method_3_code
def yX7_copyFrom : MethodName := ⟨RX7, "copyFrom", "(LPieceSurfaces$Sheet;)V"⟩
abbrev cX7_fillSum : ByteArray := prog_9_method_4_code
def yX7_fillSum : MethodName := ⟨RX7, "fillSum", "(LPieceSurfaces$Sheet;LPieceSurfaces$Sheet;)V"⟩
abbrev cX7_total : ByteArray := prog_9_method_5_code
def yX7_total : MethodName := ⟨RX7, "total", "()I"⟩
abbrev cX7_most : ByteArray := prog_9_method_6_code
def yX7_most : MethodName := ⟨RX7, "most", "()I"⟩
abbrev cX7_crosses : ByteArray := prog_9_method_7_code
def yX7_crosses : MethodName := ⟨RX7, "crosses", "()Z"⟩
abbrev cX7_arcsAt : ByteArray := prog_9_method_8_code
def yX7_arcsAt : MethodName := ⟨RX7, "arcsAt", "(III)I"⟩
abbrev cX7_arcsOn : ByteArray := prog_9_method_9_code
def yX7_arcsOn : MethodName := ⟨RX7, "arcsOn", "(II)I"⟩
abbrev cX7_weightOn : ByteArray := prog_9_method_10_code
def yX7_weightOn : MethodName := ⟨RX7, "weightOn", "(II)I"⟩
def RX8 : String := "PieceSurfaces$Skeleton"
def TX8 : u_T := fun k => match k with
  | 0 => ("PieceSurfaces$Skeleton", "corners", "LPieceSurfaces$Classes;", true)
  | 1 => ("PieceSurfaces$Skeleton", "edges", "LPieceSurfaces$Classes;", true)
  | 2 => ("PieceSurfaces$Skeleton", "arrows", "LPieceSurfaces$Classes;", true)
  | 3 => ("PieceSurfaces$Skeleton", "vertexOf", "[I", true)
  | 4 => ("PieceSurfaces$Skeleton", "lineOf", "[I", true)
  | 5 => ("PieceSurfaces$Skeleton", "degree", "[I", true)
  | 6 => ("PieceSurfaces$Skeleton", "firstEdge", "[I", true)
  | 7 => ("PieceSurfaces$Skeleton", "vertices", "I", false)
  | _ => ("PieceSurfaces$Skeleton", "lines", "I", false)
def tyX8 : Nat → FieldType := fun k => match k with
  | 0 => .object "PieceSurfaces$Classes"
  | 1 => .object "PieceSurfaces$Classes"
  | 2 => .object "PieceSurfaces$Classes"
  | 3 => .array .int
  | 4 => .array .int
  | 5 => .array .int
  | 6 => .array .int
  | 7 => .int
  | _ => .int
abbrev wsX80 : List Cond := u_ws RX8 TX8 9
theorem nmX8 : ∀ a, a < 9 → ∀ b, b < 9 → a ≠ b → (TX8 a).2.1 ≠ (TX8 b).2.1 := by decide +kernel
theorem tyX8_ok : ∀ k, k < 9 → parseFieldDescriptor (TX8 k).2.2.1 = some (tyX8 k) := by decide +kernel
abbrev cX8_init : ByteArray := prog_10_method_1_code
def yX8_init : MethodName := ⟨RX8, "<init>", "()V"⟩
abbrev cX8_read : ByteArray := prog_10_method_2_code
def yX8_read : MethodName := ⟨RX8, "read", "(LPieceSurfaces$World;)V"⟩
abbrev cX8_joinFaces : ByteArray := prog_10_method_3_code
def yX8_joinFaces : MethodName := ⟨RX8, "joinFaces", "(LPieceSurfaces$World;I)V"⟩
abbrev cX8_joinArrows : ByteArray := prog_10_method_4_code
def yX8_joinArrows : MethodName := ⟨RX8, "joinArrows", "(II)V"⟩
abbrev cX8_edgeOf : ByteArray := prog_10_method_5_code
def yX8_edgeOf : MethodName := ⟨RX8, "edgeOf", "(I)I"⟩
abbrev cX8_measureLines : ByteArray := prog_10_method_6_code
def yX8_measureLines : MethodName := ⟨RX8, "measureLines", "(I)V"⟩
abbrev cX8_isReversed : ByteArray := prog_10_method_7_code
def yX8_isReversed : MethodName := ⟨RX8, "isReversed", "(I)Z"⟩
abbrev cX8_reversedLines : ByteArray := prog_10_method_8_code
def yX8_reversedLines : MethodName := ⟨RX8, "reversedLines", "()I"⟩
def RX9 : String := "PieceSurfaces$Survey"
def TX9 : u_T := fun k => match k with
  | 0 => ("PieceSurfaces$Survey", "world", "LPieceSurfaces$World;", true)
  | 1 => ("PieceSurfaces$Survey", "skeleton", "LPieceSurfaces$Skeleton;", true)
  | 2 => ("PieceSurfaces$Survey", "matching", "LPieceSurfaces$Matching;", true)
  | 3 => ("PieceSurfaces$Survey", "joined", "LPieceSurfaces$Classes;", true)
  | 4 => ("PieceSurfaces$Survey", "sides", "LPieceSurfaces$Classes;", true)
  | 5 => ("PieceSurfaces$Survey", "start", "[I", true)
  | 6 => ("PieceSurfaces$Survey", "link", "LPieceSurfaces$Sheet;", true)
  | 7 => ("PieceSurfaces$Survey", "part", "LPieceSurfaces$Sheet;", true)
  | 8 => ("PieceSurfaces$Survey", "used", "[I", true)
  | 9 => ("PieceSurfaces$Survey", "usedCount", "I", false)
  | 10 => ("PieceSurfaces$Survey", "components", "I", false)
  | _ => ("PieceSurfaces$Survey", "twoSided", "I", false)
def tyX9 : Nat → FieldType := fun k => match k with
  | 0 => .object "PieceSurfaces$World"
  | 1 => .object "PieceSurfaces$Skeleton"
  | 2 => .object "PieceSurfaces$Matching"
  | 3 => .object "PieceSurfaces$Classes"
  | 4 => .object "PieceSurfaces$Classes"
  | 5 => .array .int
  | 6 => .object "PieceSurfaces$Sheet"
  | 7 => .object "PieceSurfaces$Sheet"
  | 8 => .array .int
  | 9 => .int
  | 10 => .int
  | _ => .int
abbrev wsX90 : List Cond := u_ws RX9 TX9 12
theorem nmX9 : ∀ a, a < 12 → ∀ b, b < 12 → a ≠ b → (TX9 a).2.1 ≠ (TX9 b).2.1 := by decide +kernel
theorem tyX9_ok : ∀ k, k < 12 → parseFieldDescriptor (TX9 k).2.2.1 = some (tyX9 k) := by decide +kernel
abbrev cX9_init : ByteArray := prog_11_method_1_code
def yX9_init : MethodName := ⟨RX9, "<init>", "()V"⟩
abbrev cX9_matches : ByteArray := prog_11_method_2_code
def yX9_matches : MethodName := ⟨RX9, "matches", "(LPieceSurfaces$Sheet;)Z"⟩
abbrev cX9_isNormal : ByteArray := prog_11_method_3_code
def yX9_isNormal : MethodName := ⟨RX9, "isNormal", "(LPieceSurfaces$Sheet;)Z"⟩
abbrev cX9_ofNormal : ByteArray := prog_11_method_4_code
def yX9_ofNormal : MethodName := ⟨RX9, "ofNormal", "(LPieceSurfaces$Sheet;I)I"⟩
abbrev cX9_characteristic : ByteArray := prog_11_method_5_code
def yX9_characteristic : MethodName := ⟨RX9, "characteristic", "(LPieceSurfaces$Sheet;)I"⟩
abbrev cX9_boundary : ByteArray := prog_11_method_6_code
def yX9_boundary : MethodName := ⟨RX9, "boundary", "(LPieceSurfaces$Sheet;)I"⟩
abbrev cX9_type : ByteArray := prog_11_method_7_code
def yX9_type : MethodName := ⟨RX9, "type", "(LPieceSurfaces$Sheet;)I"⟩
abbrev cX9_trace : ByteArray := prog_11_method_8_code
def yX9_trace : MethodName := ⟨RX9, "trace", "(LPieceSurfaces$Sheet;)V"⟩
abbrev cX9_joinPieces : ByteArray := prog_11_method_9_code
def yX9_joinPieces : MethodName := ⟨RX9, "joinPieces", "(LPieceSurfaces$Sheet;I)V"⟩
abbrev cX9_sideAt : ByteArray := prog_11_method_10_code
def yX9_sideAt : MethodName := ⟨RX9, "sideAt", "(LPieceSurfaces$Sheet;III)I"⟩
abbrev cX9_fillLink : ByteArray := prog_11_method_11_code
def yX9_fillLink : MethodName := ⟨RX9, "fillLink", "(ILPieceSurfaces$Sheet;)V"⟩
abbrev cX9_isGood : ByteArray := prog_11_method_12_code
def yX9_isGood : MethodName := ⟨RX9, "isGood", "(I)Z"⟩
abbrev cX9_goodVertices : ByteArray := prog_11_method_13_code
def yX9_goodVertices : MethodName := ⟨RX9, "goodVertices", "()I"⟩
abbrev cX9_wholeCharacteristic : ByteArray := prog_11_method_14_code
def yX9_wholeCharacteristic : MethodName := ⟨RX9, "wholeCharacteristic", "()I"⟩
abbrev cX9_splits : ByteArray := prog_11_method_15_code
def yX9_splits : MethodName := ⟨RX9, "splits", "(LPieceSurfaces$Sheet;)I"⟩
abbrev cX9_countParts : ByteArray := prog_11_method_16_code
def yX9_countParts : MethodName := ⟨RX9, "countParts", "(LPieceSurfaces$Sheet;)I"⟩
abbrev cX9_listUsed : ByteArray := prog_11_method_17_code
def yX9_listUsed : MethodName := ⟨RX9, "listUsed", "(LPieceSurfaces$Sheet;)V"⟩
abbrev cX9_nextPart : ByteArray := prog_11_method_18_code
def yX9_nextPart : MethodName := ⟨RX9, "nextPart", "(LPieceSurfaces$Sheet;)V"⟩
def RX10 : String := "PieceSurfaces$World"
def TX10 : u_T := fun k => match k with
  | 0 => ("PieceSurfaces$World", "many", "I", false)
  | 1 => ("PieceSurfaces$World", "count", "I", false)
  | 2 => ("PieceSurfaces$World", "partner", "[I", true)
  | 3 => ("PieceSurfaces$World", "way", "[I", true)
  | _ => ("PieceSurfaces$World", "sheets", "[LPieceSurfaces$Sheet;", true)
def tyX10 : Nat → FieldType := fun k => match k with
  | 0 => .int
  | 1 => .int
  | 2 => .array .int
  | 3 => .array .int
  | _ => .array (.object "PieceSurfaces$Sheet")
abbrev wsX100 : List Cond := u_ws RX10 TX10 5
theorem nmX10 : ∀ a, a < 5 → ∀ b, b < 5 → a ≠ b → (TX10 a).2.1 ≠ (TX10 b).2.1 := by decide +kernel
theorem tyX10_ok : ∀ k, k < 5 → parseFieldDescriptor (TX10 k).2.2.1 = some (tyX10 k) := by decide +kernel
abbrev cX10_init : ByteArray := prog_12_method_1_code
def yX10_init : MethodName := ⟨RX10, "<init>", "()V"⟩
abbrev cX10_begin : ByteArray := prog_12_method_2_code
def yX10_begin : MethodName := ⟨RX10, "begin", "(I)V"⟩
abbrev cX10_copyFrom : ByteArray := prog_12_method_3_code
def yX10_copyFrom : MethodName := ⟨RX10, "copyFrom", "(LPieceSurfaces$World;)V"⟩
abbrev cX10_faces : ByteArray := prog_12_method_4_code
def yX10_faces : MethodName := ⟨RX10, "faces", "()I"⟩
abbrev cX10_freeFaces : ByteArray := prog_12_method_5_code
def yX10_freeFaces : MethodName := ⟨RX10, "freeFaces", "()I"⟩
abbrev cX10_canFasten : ByteArray := prog_12_method_6_code
def yX10_canFasten : MethodName := ⟨RX10, "canFasten", "(II)Z"⟩
abbrev cX10_fasten : ByteArray := prog_12_method_7_code
def yX10_fasten : MethodName := ⟨RX10, "fasten", "(III)V"⟩
abbrev cX10_loosen : ByteArray := prog_12_method_8_code
def yX10_loosen : MethodName := ⟨RX10, "loosen", "(I)V"⟩
abbrev cX10_leads : ByteArray := prog_12_method_9_code
def yX10_leads : MethodName := ⟨RX10, "leads", "(I)Z"⟩
abbrev cX10_across : ByteArray := prog_12_method_10_code
def yX10_across : MethodName := ⟨RX10, "across", "(II)I"⟩
abbrev cX10_isFull : ByteArray := prog_12_method_11_code
def yX10_isFull : MethodName := ⟨RX10, "isFull", "()Z"⟩
abbrev cX10_lastGrown : ByteArray := prog_12_method_12_code
def yX10_lastGrown : MethodName := ⟨RX10, "lastGrown", "()I"⟩
abbrev cX10_dropSheet : ByteArray := prog_12_method_13_code
def yX10_dropSheet : MethodName := ⟨RX10, "dropSheet", "(I)V"⟩
def RX11 : String := "PieceSurfaces"
def TX11 : u_T := fun k => match k with
  | 0 => ("PieceSurfaces", "world", "LPieceSurfaces$World;", true)
  | 1 => ("PieceSurfaces", "skeleton", "LPieceSurfaces$Skeleton;", true)
  | 2 => ("PieceSurfaces", "survey", "LPieceSurfaces$Survey;", true)
  | 3 => ("PieceSurfaces", "past", "LPieceSurfaces$Past;", true)
  | 4 => ("PieceSurfaces", "book", "LPieceSurfaces$Book;", true)
  | 5 => ("PieceSurfaces", "dice", "LPieceSurfaces$Dice;", true)
  | _ => ("PieceSurfaces", "images", "[LPieceSurfaces$Image;", true)
def tyX11 : Nat → FieldType := fun k => match k with
  | 0 => .object "PieceSurfaces$World"
  | 1 => .object "PieceSurfaces$Skeleton"
  | 2 => .object "PieceSurfaces$Survey"
  | 3 => .object "PieceSurfaces$Past"
  | 4 => .object "PieceSurfaces$Book"
  | 5 => .object "PieceSurfaces$Dice"
  | _ => .array (.object "PieceSurfaces$Image")
abbrev wsX110 : List Cond := u_ws RX11 TX11 7
theorem nmX11 : ∀ a, a < 7 → ∀ b, b < 7 → a ≠ b → (TX11 a).2.1 ≠ (TX11 b).2.1 := by decide +kernel
theorem tyX11_ok : ∀ k, k < 7 → parseFieldDescriptor (TX11 k).2.2.1 = some (tyX11 k) := by decide +kernel
abbrev cX11_init : ByteArray := prog_1_method_1_code
def yX11_init : MethodName := ⟨RX11, "<init>", "()V"⟩
abbrev cX11_told : ByteArray := prog_1_method_2_code
def yX11_told : MethodName := ⟨RX11, "told", "(I)I"⟩
abbrev cX11_wall : ByteArray := prog_1_method_3_code
def yX11_wall : MethodName := ⟨RX11, "wall", "(III)I"⟩
abbrev cX11_corner : ByteArray := prog_1_method_4_code
def yX11_corner : MethodName := ⟨RX11, "corner", "(III)I"⟩
abbrev cX11_edge : ByteArray := prog_1_method_5_code
def yX11_edge : MethodName := ⟨RX11, "edge", "(III)I"⟩
abbrev cX11_pieces : ByteArray := prog_1_method_6_code
def yX11_pieces : MethodName := ⟨RX11, "pieces", "(III)I"⟩
abbrev cX11_surface : ByteArray := prog_1_method_7_code
def yX11_surface : MethodName := ⟨RX11, "surface", "(II)I"⟩
abbrev cX11_weight : ByteArray := prog_1_method_8_code
def yX11_weight : MethodName := ⟨RX11, "weight", "(III)I"⟩
abbrev cX11_arcs : ByteArray := prog_1_method_9_code
def yX11_arcs : MethodName := ⟨RX11, "arcs", "(IIII)I"⟩
abbrev cX11_bodies : ByteArray := prog_1_method_10_code
def yX11_bodies : MethodName := ⟨RX11, "bodies", "(I)I"⟩
abbrev cX11_glue : ByteArray := prog_1_method_11_code
def yX11_glue : MethodName := ⟨RX11, "glue", "(IIIII)I"⟩
abbrev cX11_free : ByteArray := prog_1_method_12_code
def yX11_free : MethodName := ⟨RX11, "free", "(II)I"⟩
abbrev cX11_put : ByteArray := prog_1_method_13_code
def yX11_put : MethodName := ⟨RX11, "put", "()I"⟩
abbrev cX11_piece : ByteArray := prog_1_method_14_code
def yX11_piece : MethodName := ⟨RX11, "piece", "(IIII)I"⟩
abbrev cX11_about : ByteArray := prog_1_method_15_code
def yX11_about : MethodName := ⟨RX11, "about", "(I)I"⟩
abbrev cX11_add : ByteArray := prog_1_method_16_code
def yX11_add : MethodName := ⟨RX11, "add", "(II)I"⟩
abbrev cX11_take : ByteArray := prog_1_method_17_code
def yX11_take : MethodName := ⟨RX11, "take", "(I)I"⟩
abbrev cX11_drift : ByteArray := prog_1_method_18_code
def yX11_drift : MethodName := ⟨RX11, "drift", "(I)I"⟩
abbrev cX11_undo : ByteArray := prog_1_method_19_code
def yX11_undo : MethodName := ⟨RX11, "undo", "(I)I"⟩
abbrev cX11_write : ByteArray := prog_1_method_20_code
def yX11_write : MethodName := ⟨RX11, "write", "(II)I"⟩
abbrev cX11_tear : ByteArray := prog_1_method_21_code
def yX11_tear : MethodName := ⟨RX11, "tear", "()I"⟩
abbrev cX11_seed : ByteArray := prog_1_method_22_code
def yX11_seed : MethodName := ⟨RX11, "seed", "(I)I"⟩
abbrev cX11_keep : ByteArray := prog_1_method_23_code
def yX11_keep : MethodName := ⟨RX11, "keep", "(I)I"⟩
abbrev cX11_goBack : ByteArray := prog_1_method_24_code
def yX11_goBack : MethodName := ⟨RX11, "goBack", "(I)I"⟩
abbrev cX11_hasBody : ByteArray := prog_1_method_25_code
def yX11_hasBody : MethodName := ⟨RX11, "hasBody", "(I)Z"⟩
abbrev cX11_hasFace : ByteArray := prog_1_method_26_code
def yX11_hasFace : MethodName := ⟨RX11, "hasFace", "(II)Z"⟩
abbrev cX11_hasEdge : ByteArray := prog_1_method_27_code
def yX11_hasEdge : MethodName := ⟨RX11, "hasEdge", "(II)Z"⟩
abbrev cX11_hasSurface : ByteArray := prog_1_method_28_code
def yX11_hasSurface : MethodName := ⟨RX11, "hasSurface", "(I)Z"⟩
abbrev cX11_hasImage : ByteArray := prog_1_method_29_code
def yX11_hasImage : MethodName := ⟨RX11, "hasImage", "(I)Z"⟩
abbrev cX11_isKind : ByteArray := prog_1_method_30_code
def yX11_isKind : MethodName := ⟨RX11, "isKind", "(I)Z"⟩
abbrev cX11_driftOnce : ByteArray := prog_1_method_31_code
def yX11_driftOnce : MethodName := ⟨RX11, "driftOnce", "()V"⟩
def RX12 : String := "PieceSurfacesModel"
def TX12 : u_T := fun k => match k with
  | 0 => ("PieceSurfacesModel", "w", "[I", true)
  | 1 => ("PieceSurfacesModel", "known", "I", false)
  | 2 => ("PieceSurfacesModel", "kept", "I", false)
  | 3 => ("PieceSurfacesModel", "seed", "I", false)
  | 4 => ("PieceSurfacesModel", "keptSeed", "[I", true)
  | 5 => ("PieceSurfacesModel", "bookOf", "[I", true)
  | 6 => ("PieceSurfacesModel", "bookIs", "[I", true)
  | 7 => ("PieceSurfacesModel", "booked", "I", false)
  | 8 => ("PieceSurfacesModel", "point", "[I", true)
  | 9 => ("PieceSurfacesModel", "line", "[I", true)
  | 10 => ("PieceSurfacesModel", "arrow", "[I", true)
  | 11 => ("PieceSurfacesModel", "heap", "[I", true)
  | _ => ("PieceSurfacesModel", "face", "[I", true)
def tyX12 : Nat → FieldType := fun k => match k with
  | 0 => .array .int
  | 1 => .int
  | 2 => .int
  | 3 => .int
  | 4 => .array .int
  | 5 => .array .int
  | 6 => .array .int
  | 7 => .int
  | 8 => .array .int
  | 9 => .array .int
  | 10 => .array .int
  | 11 => .array .int
  | _ => .array .int
abbrev wsX120 : List Cond := u_ws RX12 TX12 13
theorem nmX12 : ∀ a, a < 13 → ∀ b, b < 13 → a ≠ b → (TX12 a).2.1 ≠ (TX12 b).2.1 := by decide +kernel
theorem tyX12_ok : ∀ k, k < 13 → parseFieldDescriptor (TX12 k).2.2.1 = some (tyX12 k) := by decide +kernel
abbrev cX12_init : ByteArray := prog_14_method_1_code
def yX12_init : MethodName := ⟨RX12, "<init>", "()V"⟩
abbrev cX12_in : ByteArray := prog_14_method_2_code
def yX12_in : MethodName := ⟨RX12, "in", "(III)Z"⟩
abbrev cX12_copyRow : ByteArray := prog_14_method_3_code
def yX12_copyRow : MethodName := ⟨RX12, "copyRow", "(II)V"⟩
abbrev cX12_unglueAll : ByteArray := prog_14_method_4_code
def yX12_unglueAll : MethodName := ⟨RX12, "unglueAll", "()V"⟩
abbrev cX12_isBody : ByteArray := prog_14_method_5_code
def yX12_isBody : MethodName := ⟨RX12, "isBody", "(I)Z"⟩
abbrev cX12_isSide : ByteArray := prog_14_method_6_code
def yX12_isSide : MethodName := ⟨RX12, "isSide", "(I)Z"⟩
abbrev cX12_isSurface : ByteArray := prog_14_method_7_code
def yX12_isSurface : MethodName := ⟨RX12, "isSurface", "(I)Z"⟩
abbrev cX12_surfaceAt : ByteArray := prog_14_method_8_code
def yX12_surfaceAt : MethodName := ⟨RX12, "surfaceAt", "(I)I"⟩
abbrev cX12_place : ByteArray := prog_14_method_9_code
def yX12_place : MethodName := ⟨RX12, "place", "(II)I"⟩
abbrev cX12_turnedBack : ByteArray := prog_14_method_10_code
def yX12_turnedBack : MethodName := ⟨RX12, "turnedBack", "(I)I"⟩
abbrev cX12_isFree : ByteArray := prog_14_method_11_code
def yX12_isFree : MethodName := ⟨RX12, "isFree", "(I)Z"⟩
abbrev cX12_goesTo : ByteArray := prog_14_method_12_code
def yX12_goesTo : MethodName := ⟨RX12, "goesTo", "(II)I"⟩
abbrev cX12_walls : ByteArray := prog_14_method_13_code
def yX12_walls : MethodName := ⟨RX12, "walls", "()I"⟩
abbrev cX12_freeMany : ByteArray := prog_14_method_14_code
def yX12_freeMany : MethodName := ⟨RX12, "freeMany", "()I"⟩
abbrev cX12_edgeOf : ByteArray := prog_14_method_15_code
def yX12_edgeOf : MethodName := ⟨RX12, "edgeOf", "(II)I"⟩
abbrev cX12_lowOf : ByteArray := prog_14_method_16_code
def yX12_lowOf : MethodName := ⟨RX12, "lowOf", "(I)I"⟩
abbrev cX12_highOf : ByteArray := prog_14_method_17_code
def yX12_highOf : MethodName := ⟨RX12, "highOf", "(I)I"⟩
abbrev cX12_alike : ByteArray := prog_14_method_18_code
def yX12_alike : MethodName := ⟨RX12, "alike", "([IIII)V"⟩
abbrev cX12_glueCorners : ByteArray := prog_14_method_19_code
def yX12_glueCorners : MethodName := ⟨RX12, "glueCorners", "(I)V"⟩
abbrev cX12_layRoom : ByteArray := prog_14_method_20_code
def yX12_layRoom : MethodName := ⟨RX12, "layRoom", "()V"⟩
abbrev cX12_firsts : ByteArray := prog_14_method_21_code
def yX12_firsts : MethodName := ⟨RX12, "firsts", "([II)I"⟩
abbrev cX12_isBent : ByteArray := prog_14_method_22_code
def yX12_isBent : MethodName := ⟨RX12, "isBent", "(I)Z"⟩
abbrev cX12_aroundOf : ByteArray := prog_14_method_23_code
def yX12_aroundOf : MethodName := ⟨RX12, "aroundOf", "(I)I"⟩
abbrev cX12_bentMany : ByteArray := prog_14_method_24_code
def yX12_bentMany : MethodName := ⟨RX12, "bentMany", "()I"⟩
abbrev cX12_four : ByteArray := prog_14_method_25_code
def yX12_four : MethodName := ⟨RX12, "four", "(II)I"⟩
abbrev cX12_arcsOf : ByteArray := prog_14_method_26_code
def yX12_arcsOf : MethodName := ⟨RX12, "arcsOf", "(III)I"⟩
abbrev cX12_weightOf : ByteArray := prog_14_method_27_code
def yX12_weightOf : MethodName := ⟨RX12, "weightOf", "(III)I"⟩
abbrev cX12_meets : ByteArray := prog_14_method_28_code
def yX12_meets : MethodName := ⟨RX12, "meets", "(I)Z"⟩
abbrev cX12_crosses : ByteArray := prog_14_method_29_code
def yX12_crosses : MethodName := ⟨RX12, "crosses", "(I)Z"⟩
abbrev cX12_isWell : ByteArray := prog_14_method_30_code
def yX12_isWell : MethodName := ⟨RX12, "isWell", "(I)Z"⟩
abbrev cX12_allPieces : ByteArray := prog_14_method_31_code
def yX12_allPieces : MethodName := ⟨RX12, "allPieces", "(I)I"⟩
abbrev cX12_arcsOfWall : ByteArray := prog_14_method_32_code
def yX12_arcsOfWall : MethodName := ⟨RX12, "arcsOfWall", "(II)I"⟩
abbrev cX12_border : ByteArray := prog_14_method_33_code
def yX12_border : MethodName := ⟨RX12, "border", "(I)I"⟩
abbrev cX12_euler : ByteArray := prog_14_method_34_code
def yX12_euler : MethodName := ⟨RX12, "euler", "(I)I"⟩
abbrev cX12_isWithFirst : ByteArray := prog_14_method_35_code
def yX12_isWithFirst : MethodName := ⟨RX12, "isWithFirst", "(II)Z"⟩
abbrev cX12_pieceAt : ByteArray := prog_14_method_36_code
def yX12_pieceAt : MethodName := ⟨RX12, "pieceAt", "(IIII)I"⟩
abbrev cX12_sideTo : ByteArray := prog_14_method_37_code
def yX12_sideTo : MethodName := ⟨RX12, "sideTo", "(II)I"⟩
abbrev cX12_joinArcs : ByteArray := prog_14_method_38_code
def yX12_joinArcs : MethodName := ⟨RX12, "joinArcs", "(III)V"⟩
abbrev cX12_join : ByteArray := prog_14_method_39_code
def yX12_join : MethodName := ⟨RX12, "join", "(I)V"⟩
abbrev cX12_isThere : ByteArray := prog_14_method_40_code
def yX12_isThere : MethodName := ⟨RX12, "isThere", "(II)Z"⟩
abbrev cX12_isTwoSided : ByteArray := prog_14_method_41_code
def yX12_isTwoSided : MethodName := ⟨RX12, "isTwoSided", "(II)Z"⟩
abbrev cX12_parts : ByteArray := prog_14_method_42_code
def yX12_parts : MethodName := ⟨RX12, "parts", "(IZ)I"⟩
abbrev cX12_name : ByteArray := prog_14_method_43_code
def yX12_name : MethodName := ⟨RX12, "name", "(I)I"⟩
abbrev cX12_layAbout : ByteArray := prog_14_method_44_code
def yX12_layAbout : MethodName := ⟨RX12, "layAbout", "(II)V"⟩
abbrev cX12_isGood : ByteArray := prog_14_method_45_code
def yX12_isGood : MethodName := ⟨RX12, "isGood", "(I)Z"⟩
abbrev cX12_goodMany : ByteArray := prog_14_method_46_code
def yX12_goodMany : MethodName := ⟨RX12, "goodMany", "()I"⟩
abbrev cX12_points : ByteArray := prog_14_method_47_code
def yX12_points : MethodName := ⟨RX12, "points", "()I"⟩
abbrev cX12_lines : ByteArray := prog_14_method_48_code
def yX12_lines : MethodName := ⟨RX12, "lines", "()I"⟩
abbrev cX12_bents : ByteArray := prog_14_method_49_code
def yX12_bents : MethodName := ⟨RX12, "bents", "()I"⟩
abbrev cX12_characteristic : ByteArray := prog_14_method_50_code
def yX12_characteristic : MethodName := ⟨RX12, "characteristic", "()I"⟩
abbrev cX12_split : ByteArray := prog_14_method_51_code
def yX12_split : MethodName := ⟨RX12, "split", "(I)I"⟩
abbrev cX12_wrongEntry : ByteArray := prog_14_method_52_code
def yX12_wrongEntry : MethodName := ⟨RX12, "wrongEntry", "()I"⟩
abbrev cX12_told : ByteArray := prog_14_method_53_code
def yX12_told : MethodName := ⟨RX12, "told", "(I)I"⟩
abbrev cX12_wall : ByteArray := prog_14_method_54_code
def yX12_wall : MethodName := ⟨RX12, "wall", "(III)I"⟩
abbrev cX12_corner : ByteArray := prog_14_method_55_code
def yX12_corner : MethodName := ⟨RX12, "corner", "(III)I"⟩
abbrev cX12_edge : ByteArray := prog_14_method_56_code
def yX12_edge : MethodName := ⟨RX12, "edge", "(III)I"⟩
abbrev cX12_pieces : ByteArray := prog_14_method_57_code
def yX12_pieces : MethodName := ⟨RX12, "pieces", "(III)I"⟩
abbrev cX12_ofWell : ByteArray := prog_14_method_58_code
def yX12_ofWell : MethodName := ⟨RX12, "ofWell", "(II)I"⟩
abbrev cX12_surface : ByteArray := prog_14_method_59_code
def yX12_surface : MethodName := ⟨RX12, "surface", "(II)I"⟩
abbrev cX12_weight : ByteArray := prog_14_method_60_code
def yX12_weight : MethodName := ⟨RX12, "weight", "(III)I"⟩
abbrev cX12_arcs : ByteArray := prog_14_method_61_code
def yX12_arcs : MethodName := ⟨RX12, "arcs", "(IIII)I"⟩
abbrev cX12_remember : ByteArray := prog_14_method_62_code
def yX12_remember : MethodName := ⟨RX12, "remember", "()V"⟩
abbrev cX12_bodies : ByteArray := prog_14_method_63_code
def yX12_bodies : MethodName := ⟨RX12, "bodies", "(I)I"⟩
abbrev cX12_mayGlue : ByteArray := prog_14_method_64_code
def yX12_mayGlue : MethodName := ⟨RX12, "mayGlue", "(II)Z"⟩
abbrev cX12_glueTo : ByteArray := prog_14_method_65_code
def yX12_glueTo : MethodName := ⟨RX12, "glueTo", "(III)V"⟩
abbrev cX12_glue : ByteArray := prog_14_method_66_code
def yX12_glue : MethodName := ⟨RX12, "glue", "(IIIII)I"⟩
abbrev cX12_free : ByteArray := prog_14_method_67_code
def yX12_free : MethodName := ⟨RX12, "free", "(II)I"⟩
abbrev cX12_newSurface : ByteArray := prog_14_method_68_code
def yX12_newSurface : MethodName := ⟨RX12, "newSurface", "()I"⟩
abbrev cX12_put : ByteArray := prog_14_method_69_code
def yX12_put : MethodName := ⟨RX12, "put", "()I"⟩
abbrev cX12_piece : ByteArray := prog_14_method_70_code
def yX12_piece : MethodName := ⟨RX12, "piece", "(IIII)I"⟩
abbrev cX12_about : ByteArray := prog_14_method_71_code
def yX12_about : MethodName := ⟨RX12, "about", "(I)I"⟩
abbrev cX12_add : ByteArray := prog_14_method_72_code
def yX12_add : MethodName := ⟨RX12, "add", "(II)I"⟩
abbrev cX12_take : ByteArray := prog_14_method_73_code
def yX12_take : MethodName := ⟨RX12, "take", "(I)I"⟩
abbrev cX12_draw : ByteArray := prog_14_method_74_code
def yX12_draw : MethodName := ⟨RX12, "draw", "(I)I"⟩
abbrev cX12_chance : ByteArray := prog_14_method_75_code
def yX12_chance : MethodName := ⟨RX12, "chance", "()V"⟩
abbrev cX12_drift : ByteArray := prog_14_method_76_code
def yX12_drift : MethodName := ⟨RX12, "drift", "(I)I"⟩
abbrev cX12_undo : ByteArray := prog_14_method_77_code
def yX12_undo : MethodName := ⟨RX12, "undo", "(I)I"⟩
abbrev cX12_write : ByteArray := prog_14_method_78_code
def yX12_write : MethodName := ⟨RX12, "write", "(II)I"⟩
abbrev cX12_tear : ByteArray := prog_14_method_79_code
def yX12_tear : MethodName := ⟨RX12, "tear", "()I"⟩
abbrev cX12_seed : ByteArray := prog_14_method_80_code
def yX12_seed : MethodName := ⟨RX12, "seed", "(I)I"⟩
abbrev cX12_keep : ByteArray := prog_14_method_81_code
def yX12_keep : MethodName := ⟨RX12, "keep", "(I)I"⟩
abbrev cX12_goBack : ByteArray := prog_14_method_82_code
def yX12_goBack : MethodName := ⟨RX12, "goBack", "(I)I"⟩
def RJ9 : String := "java/lang/Math"
abbrev cJ9_floorMod_7cf53 : ByteArray := prog_15_method_50_code
def yJ9_floorMod_7cf53 : MethodName := ⟨RJ9, "floorMod", "(II)I"⟩
abbrev cJ9_max_7cf53 : ByteArray := prog_15_method_65_code
def yJ9_max_7cf53 : MethodName := ⟨RJ9, "max", "(II)I"⟩
abbrev cJ9_min_7cf53 : ByteArray := prog_15_method_69_code
def yJ9_min_7cf53 : MethodName := ⟨RJ9, "min", "(II)I"⟩
def RJ10 : String := "java/lang/System"
def RJ7 : String := "java/util/Arrays"
abbrev cJ7_fill_53178 : ByteArray := prog_17_method_103_code
def yJ7_fill_53178 : MethodName := ⟨RJ7, "fill", "([II)V"⟩
def RL : String := "PieceSurfacesLaw"
abbrev cL_law : ByteArray := code
def yL_law : MethodName := ⟨RL, "law", "([I)Z"⟩
abbrev vwCl : List vw_C := [(RX0, TX0, 3), (RX1, TX1, 2), (RX2, TX2, 1), (RX3, TX3, 3), (RX4, TX4, 2), (RX5, TX5, 3), (RX7, TX7, 1), (RX8, TX8, 9), (RX9, TX9, 12), (RX10, TX10, 5), (RX11, TX11, 7), (RX12, TX12, 13)]
theorem inX0 : ∀ w ∈ wsX00, w ∈ lw_tbl := fun w h => (goodIn_r (big := lw_tbl) wsX00 [288, 290, 292] (by decide +kernel) (by decide +kernel) w h).1
theorem inX1 : ∀ w ∈ wsX10, w ∈ lw_tbl := fun w h => (goodIn_r (big := lw_tbl) wsX10 [160, 162] (by decide +kernel) (by decide +kernel) w h).1
theorem inX2 : ∀ w ∈ wsX20, w ∈ lw_tbl := fun w h => (goodIn_r (big := lw_tbl) wsX20 [304] (by decide +kernel) (by decide +kernel) w h).1
theorem inX3 : ∀ w ∈ wsX30, w ∈ lw_tbl := fun w h => (goodIn_r (big := lw_tbl) wsX30 [320, 322, 324] (by decide +kernel) (by decide +kernel) w h).1
theorem inX4 : ∀ w ∈ wsX40, w ∈ lw_tbl := fun w h => (goodIn_r (big := lw_tbl) wsX40 [210, 212] (by decide +kernel) (by decide +kernel) w h).1
theorem inX5 : ∀ w ∈ wsX50, w ∈ lw_tbl := fun w h => (goodIn_r (big := lw_tbl) wsX50 [271, 273, 275] (by decide +kernel) (by decide +kernel) w h).1
theorem inX7 : ∀ w ∈ wsX70, w ∈ lw_tbl := fun w h => (goodIn_r (big := lw_tbl) wsX70 [112] (by decide +kernel) (by decide +kernel) w h).1
theorem inX8 : ∀ w ∈ wsX80, w ∈ lw_tbl := fun w h => (goodIn_r (big := lw_tbl) wsX80 [183, 185, 187, 189, 191, 193, 195, 197, 199] (by decide +kernel) (by decide +kernel) w h).1
theorem inX9 : ∀ w ∈ wsX90, w ∈ lw_tbl := fun w h => (goodIn_r (big := lw_tbl) wsX90 [233, 235, 237, 239, 241, 243, 245, 247, 249, 251, 253, 255] (by decide +kernel) (by decide +kernel) w h).1
theorem inX10 : ∀ w ∈ wsX100, w ∈ lw_tbl := fun w h => (goodIn_r (big := lw_tbl) wsX100 [135, 137, 139, 141, 143] (by decide +kernel) (by decide +kernel) w h).1
theorem inX11 : ∀ w ∈ wsX110, w ∈ lw_tbl := fun w h => (goodIn_r (big := lw_tbl) wsX110 [334, 336, 338, 340, 342, 344, 346] (by decide +kernel) (by decide +kernel) w h).1
theorem inX12 : ∀ w ∈ wsX120, w ∈ lw_tbl := fun w h => (goodIn_r (big := lw_tbl) wsX120 [802, 804, 806, 808, 810, 812, 814, 816, 818, 820, 822, 824, 826] (by decide +kernel) (by decide +kernel) w h).1
